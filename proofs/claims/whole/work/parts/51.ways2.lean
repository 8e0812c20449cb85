theorem sshr_m : ∀ k, k < 32 → ((nI k &&& 31).toBitVec.smod 32).toNat = k := by decide +kernel
theorem kbit_sh (x : Int32) {k : Nat} (hk : k < 32) : (x >>> (nI k &&& 31)) &&& nI 1 = bI (kbit x k) := by
  apply Int32.toBitVec_inj.mp
  rw [Int32.toBitVec_and, Int32.toBitVec_shiftRight, BitVec.sshiftRight_eq', sshr_m k hk]
  have h1 : (nI 1).toBitVec = 1#32 := by decide
  rw [h1]
  apply BitVec.eq_of_getLsbD_eq
  intro i hi
  rw [BitVec.getLsbD_and, BitVec.getLsbD_sshiftRight, BitVec.getLsbD_one]
  by_cases e : i = 0
  · subst e
    rw [Nat.add_zero, if_pos hk]
    cases h : kbit x k with
    | true => rw [kbit] at h; rw [h]; rfl
    | false => rw [kbit] at h; rw [h]; rfl
  · cases h : kbit x k with
    | true => simp [e, show (bI true).toBitVec = 1#32 by decide]
    | false => simp [e, show (bI false).toBitVec = 0#32 by decide]
theorem thE_40 {e : Nat → Nat} {j u : Nat} (h1 : e j < 1000) (h : thE e j = some u) : e j < 40 ∧ e j = u := by
  by_cases h2 : e j < 40
  · rw [thE, if_pos h2] at h; exact ⟨h2, Option.some.inj h⟩
  · rw [thE, if_neg h2, if_pos h1] at h; cases h
theorem tch_iff {gr : Nat → Bool} {e lst : Nat → Nat} {m : Nat} (h1 : ∀ j, j < m → e j < 1000) : tch gr e lst m = true ↔ ∃ s, aS (thE e) lst m s ∧ gr s = true := by
  rw [tch, List.any_eq_true]
  constructor
  · rintro ⟨j, hj, h⟩
    rw [Bool.and_eq_true, decide_eq_true_eq] at h
    exact ⟨_, ⟨j, List.mem_range.mp hj, e j, by rw [thE, if_pos h.1], rfl⟩, h.2⟩
  · rintro ⟨s, ⟨j, hj, u, hu, hl⟩, hg⟩
    obtain ⟨a, b⟩ := thE_40 (h1 j hj) hu
    exact ⟨j, List.mem_range.mpr hj, by rw [Bool.and_eq_true, decide_eq_true_eq]; exact ⟨a, by rw [b, hl]; exact hg⟩⟩
theorem aS_1 {g6 g5 : Nat → Bool} {e lst : Nat → Nat} {j : Nat} (h : ∀ t, t < 40 → (g6 t = true ↔ g5 t = true ∨ aS (thE e) lst j t)) (he : 40 ≤ e j) (h1 : e j < 1000) : ∀ t, t < 40 → (g6 t = true ↔ g5 t = true ∨ aS (thE e) lst (j + 1) t) := fun t ht => by
  rw [h t ht]
  constructor
  · rintro (a | ⟨i, b, c⟩)
    · exact Or.inl a
    · exact Or.inr ⟨i, by omega, c⟩
  · rintro (a | ⟨i, b, u, c, c2⟩)
    · exact Or.inl a
    · by_cases e9 : i = j
      · subst e9; have := (thE_40 h1 c).1; omega
      · exact Or.inr ⟨i, by omega, u, c, c2⟩
theorem aS_2 {g6 g5 : Nat → Bool} {e lst : Nat → Nat} {j : Nat} (h : ∀ t, t < 40 → (g6 t = true ↔ g5 t = true ∨ aS (thE e) lst j t)) (he : e j < 40) : ∀ t, t < 40 → (va_up g6 (lst (e j)) true t = true ↔ g5 t = true ∨ aS (thE e) lst (j + 1) t) := fun t ht => by
  by_cases e8 : t = lst (e j)
  · subst e8
    rw [va_up_self]
    exact ⟨fun _ => Or.inr ⟨j, by omega, e j, by rw [thE, if_pos he], rfl⟩, fun _ => rfl⟩
  · rw [va_up_ne _ _ e8, h t ht]
    constructor
    · rintro (a | ⟨i, b, c⟩)
      · exact Or.inl a
      · exact Or.inr ⟨i, by omega, c⟩
    · rintro (a | ⟨i, b, u, c, c2⟩)
      · exact Or.inl a
      · by_cases e9 : i = j
        · subst e9; have := (thE_40 (by omega) c).2; subst this; exact absurd c2.symm e8
        · exact Or.inr ⟨i, by omega, u, c, c2⟩
section WM
variable {n : Nat} {kd : Nat → Nat} {fm to : Nat → Int32} {sz : Nat → Nat} {rl en : Nat → Nat → Nat} {lst : Nat → Nat} {ks d : Int32} {gr uu ww g5 u5 : Nat → Bool} {a k : Nat}
def wUs (n : Nat) (kd : Nat → Nat) (fm to : Nat → Int32) (sz : Nat → Nat) (en : Nat → Nat → Nat) (lst : Nat → Nat) (ks d : Int32) (gr uu : Nat → Bool) : Prop := ∀ l, l < n → (uu l = false → kbit ks (kd l) = true ∧ decide (fm l ≤ d ∧ d ≤ to l) = true) ∧ (uu l = true → kbit ks (kd l) = true → decide (fm l ≤ d ∧ d ≤ to l) = true → ∀ t, t < 40 → aS (thE (en l)) lst (sz l) t → gr t = true)
theorem way_u0 (h : ∀ l, l < n → uu l = !(kbit ks (kd l) && decide (fm l ≤ d ∧ d ≤ to l))) : wUs n kd fm to sz en lst ks d gr uu := fun l hl => by
  rw [h l hl]
  cases h1 : kbit ks (kd l) with
  | false => exact ⟨fun h => (by cases h), fun _ h => (by cases h)⟩
  | true =>
    cases h2 : decide (fm l ≤ d ∧ d ≤ to l) with
    | false => exact ⟨fun h => (by cases h), fun _ _ h => (by cases h)⟩
    | true => exact ⟨fun _ => ⟨rfl, rfl⟩, fun h => (by cases h)⟩
theorem way_g0 {g : Nat → Bool} (h : ∀ t, t < 40 → g t = false) : ∀ t, t < 40 → (va_up g a true t = true ↔ Rch n kd fm to sz en lst ks d a 0 t) := fun t ht => by
  by_cases e : t = a
  · subst e; rw [va_up_self]; exact ⟨fun _ => rfl, fun _ => rfl⟩
  · rw [va_up_ne _ _ e, h t ht]; exact ⟨fun h => (by cases h), fun h => absurd h e⟩
theorem way_nx (hw : LSw n kd sz rl en) (hlst : ∀ u, u < 40 → lst u < 40) (hg : ∀ t, t < 40 → (gr t = true ↔ Rch n kd fm to sz en lst ks d a k t)) (hu : wUs n kd fm to sz en lst ks d gr uu) (hww : ∀ l, l < n → ww l = (!uu l && tch gr (en l) lst (sz l))) (hg5 : ∀ t, t < 40 → (g5 t = true ↔ gr t = true ∨ ∃ l, l < n ∧ ww l = true ∧ aS (thE (en l)) lst (sz l) t)) : ∀ t, t < 40 → (g5 t = true ↔ Rch n kd fm to sz en lst ks d a (k + 1) t) := fun t ht => by
  rw [hg5 t ht, hg t ht]
  have hlt : ∀ l, l < n → ∀ j, j < sz l → en l j < 1000 := fun l hl j hj => by have := ((hw.2 l hl).2.2 j hj).2; have := hw.1; omega
  constructor
  · rintro (h | ⟨l, h1, h2, h3⟩)
    · exact Or.inl h
    · rw [hww l h1, Bool.and_eq_true] at h2
      have h4 : uu l = false := by cases h5 : uu l with
        | false => rfl
        | true => rw [h5] at h2; exact absurd h2.1 (by decide)
      obtain ⟨s, h6, h7⟩ := (tch_iff (hlt l h1)).mp h2.2
      obtain ⟨c1, c2⟩ := (hu l h1).1 h4
      have hs : s < 40 := by
        obtain ⟨j, hj, v, hv, rfl⟩ := h6
        exact hlst v (by have := thE_40 (hlt l h1 j hj) hv; omega)
      exact Or.inr ⟨l, h1, c1, c2, ⟨s, h6, (hg s hs).mp h7⟩, h3⟩
  · rintro (h | ⟨l, h1, c1, c2, ⟨s, h6, h7⟩, h3⟩)
    · exact Or.inl h
    · cases h4 : uu l with
      | true => exact Or.inl ((hg t ht).mp ((hu l h1).2 h4 c1 c2 t ht h3))
      | false =>
        have hs : s < 40 := by
          obtain ⟨j, hj, v, hv, rfl⟩ := h6
          exact hlst v (by have := thE_40 (hlt l h1 j hj) hv; omega)
        refine Or.inr ⟨l, h1, ?_, h3⟩
        rw [hww l h1, h4, (tch_iff (hlt l h1)).mpr ⟨s, h6, (hg s hs).mpr h7⟩]
        rfl
theorem way_us (hu : wUs n kd fm to sz en lst ks d gr uu) (hww : ∀ l, l < n → ww l = (!uu l && tch gr (en l) lst (sz l))) (hg5 : ∀ t, t < 40 → (g5 t = true ↔ gr t = true ∨ ∃ l, l < n ∧ ww l = true ∧ aS (thE (en l)) lst (sz l) t)) (hu5 : ∀ l, u5 l = (uu l || (decide (l < n) && ww l))) : wUs n kd fm to sz en lst ks d g5 u5 := fun l hl => by
  rw [hu5 l, decide_eq_true hl, Bool.true_and]
  cases h4 : uu l with
  | true => exact ⟨fun h => (by cases h), fun _ c1 c2 t ht h3 => (hg5 t ht).mpr (Or.inl ((hu l hl).2 h4 c1 c2 t ht h3))⟩
  | false =>
    refine ⟨fun _ => (hu l hl).1 h4, fun h5 c1 c2 t ht h3 => (hg5 t ht).mpr (Or.inr ⟨l, hl, h5, h3⟩)⟩
theorem way_5n {i : Nat} (h : ∀ t, t < 40 → (g5 t = true ↔ gr t = true ∨ ∃ l, l < i ∧ ww l = true ∧ aS (thE (en l)) lst (sz l) t)) (hi : ww i = false) : ∀ t, t < 40 → (g5 t = true ↔ gr t = true ∨ ∃ l, l < i + 1 ∧ ww l = true ∧ aS (thE (en l)) lst (sz l) t) := fun t ht => by
  rw [h t ht]
  constructor
  · rintro (a | ⟨l, b, c⟩)
    · exact Or.inl a
    · exact Or.inr ⟨l, by omega, c⟩
  · rintro (a | ⟨l, b, c, c2⟩)
    · exact Or.inl a
    · by_cases e9 : l = i
      · subst e9; rw [hi] at c; cases c
      · exact Or.inr ⟨l, by omega, c, c2⟩
theorem way_5y {i : Nat} {g6 : Nat → Bool} (h : ∀ t, t < 40 → (g5 t = true ↔ gr t = true ∨ ∃ l, l < i ∧ ww l = true ∧ aS (thE (en l)) lst (sz l) t)) (hi : ww i = true) (h6 : ∀ t, t < 40 → (g6 t = true ↔ g5 t = true ∨ aS (thE (en i)) lst (sz i) t)) : ∀ t, t < 40 → (g6 t = true ↔ gr t = true ∨ ∃ l, l < i + 1 ∧ ww l = true ∧ aS (thE (en l)) lst (sz l) t) := fun t ht => by
  rw [h6 t ht, h t ht]
  constructor
  · rintro ((a | ⟨l, b, c⟩) | a)
    · exact Or.inl a
    · exact Or.inr ⟨l, by omega, c⟩
    · exact Or.inr ⟨i, by omega, hi, a⟩
  · rintro (a | ⟨l, b, c, c2⟩)
    · exact Or.inl (Or.inl a)
    · by_cases e9 : l = i
      · subst e9; exact Or.inr c2
      · exact Or.inl (Or.inr ⟨l, by omega, c, c2⟩)
theorem way_un {i : Nat} (h : ∀ l, u5 l = (uu l || (decide (l < i) && ww l))) (hi : ww i = false) : ∀ l, u5 l = (uu l || (decide (l < i + 1) && ww l)) := fun l => by
  rw [h l]
  by_cases e : l = i
  · subst e; rw [hi, Bool.and_false, Bool.and_false]
  · rw [show decide (l < i + 1) = decide (l < i) from by by_cases h9 : l < i <;> simp [h9] <;> omega]
theorem way_uy {i : Nat} (h : ∀ l, u5 l = (uu l || (decide (l < i) && ww l))) (hi : ww i = true) : ∀ l, va_up u5 i true l = (uu l || (decide (l < i + 1) && ww l)) := fun l => by
  by_cases e : l = i
  · subst e; rw [va_up_self, hi, decide_eq_true (Nat.lt_succ_self l)]; simp
  · rw [va_up_ne _ _ e, h l, show decide (l < i + 1) = decide (l < i) from by by_cases h9 : l < i <;> simp [h9] <;> omega]
end WM

/-- X10_ways -/
abbrev rm_c_X10_ways : Room := { frames := 2, cells := 0, slots := 0, locals := 44 }
set_option maxHeartbeats 4000000 in
set_option maxRecDepth 100000 in
theorem c_X10_ways (l : Launch) (G : GG) (z : Nat) (ad : Nat → Nat) (M : Mem) {th : Nat} {on : Nat} {ao : Nat} {vr : Nat} {sn : Nat} {tp : Nat} {pt : Nat} {zs : Nat} {bg : Nat} {fa : Int32} {n : Nat} {kd : Nat → Nat} {fm : Nat → Int32} {to : Nat → Int32} {sz : Nat → Nat} {rl : Nat → Nat → Nat} {en : Nat → Nat → Nat} {mk : Nat → Nat} {mf : Nat → Int32} {mu : Nat → Int32} {mz : Nat → Nat} {rr : Nat → Nat} {ee : Nat → Nat} {lst : Nat → Nat} {re : Nat → Bool} {us : Nat → Bool} {ne : Nat → Bool} {a : Nat} {b : Nat} {ks : Int32} {d : Int32} (h60 : M 60 = some (cModel ad th n on ao vr sn tp pt zs bg fa)) (h65 : M 65 = some (aI G 120 (nF mk))) (h66 : M 66 = some (aI G 120 mf)) (h67 : M 67 = some (aI G 120 mu)) (h68 : M 68 = some (aI G 121 (nF mz))) (h69 : M 69 = some (aI G 726 (nF rr))) (h70 : M 70 = some (aI G 726 (nF ee))) (h71 : M 71 = some (aI G 40 (nF lst))) (h85 : M 85 = some (aZ G 40 (bF re))) (h86 : M 86 = some (aZ G 120 (bF us))) (h87 : M 87 = some (aZ G 120 (bF ne))) (hw : LSw n kd sz rl en) (hmr : MRel n kd fm to sz rl en mk mf mu mz rr ee) (ha : a < 40) (hb4 : b < 40) (hlst : ∀ u, u < 40 → lst u < 40) : Met l yX10_ways wsX10_ways rm_c_X10_ways (Pr G z ad M [.ref (ad 60), .int (nI a), .int (nI b), .int ks, .int d]) (Ni G z ad (fun (r : Int32) (M' : Mem) => ∃ re2 : Nat → Bool, ∃ us2 : Nat → Bool, ∃ ne2 : Nat → Bool, M' 60 = some (cModel ad 0 n on ao vr sn tp pt zs bg fa) ∧ M' 85 = some (aZ G 40 (bF re2)) ∧ M' 86 = some (aZ G 120 (bF us2)) ∧ M' 87 = some (aZ G 120 (bF ne2)) ∧ (∀ j : Nat, j ≠ 60 → j ≠ 85 → j ≠ 86 → j ≠ 87 → M' j = M j) ∧ (∃ o : Option Nat, r = oI o ∧ (∀ i, o = some i → Rch n kd fm to sz en lst ks d (lst a) i (lst b) ∧ ∀ j, j < i → ¬ Rch n kd fm to sz en lst ks d (lst a) j (lst b)) ∧ (o = none → ∀ j, j < 121 → ¬ Rch n kd fm to sz en lst ks d (lst a) j (lst b))))) 0 0 (fr z) := by
  refine Met.ofW (cc := cX10_ways) (maxL := 8) (ret := (some .int)) (by decide) rfl ?_
  intro p e s m args below meth c s₁ B hml hv
  obtain ⟨rfl, hv⟩ := hv
  have hI := Iv.entry hv
  have hx := B.exec
  have hb := B.bytes
  have hr := B.returns
  have hts := atoms_spec (ws := wsX10_ways) B.pre
  have hown : s.vm.findClass RX10 = some m.cls := findClass_of_methodNamed B.named
  have hlocks := B.notSynchronized
  have f_3 := hts _ (List.mem_cons_of_mem _ (lwg_of t_1013 rfl))
  have i_RX10 : ∀ w ∈ u_ws RX10 TX10 38, w ∈ wsX10_ways := fun w h => List.mem_cons_of_mem _ (iu_X10 w h)
  have f_108 := hts _ (List.mem_cons_of_mem _ (lwg_of t_1024 rfl))
  have f_92 := hts _ (List.mem_cons_of_mem _ (lwg_of t_1048 rfl))
  have f_45 := hts _ (List.mem_cons_of_mem _ (lwg_of t_1025 rfl))
  have f_98 := hts _ (List.mem_cons_of_mem _ (lwg_of t_1050 rfl))
  have f_95 := hts _ (List.mem_cons_of_mem _ (lwg_of t_1049 rfl))
  have f_36 := hts _ (List.mem_cons_of_mem _ (lwg_of t_1021 rfl))
  have f_42 := hts _ (List.mem_cons_of_mem _ (lwg_of t_1023 rfl))
  have f_27 := hts _ (List.mem_cons_of_mem _ (lwg_of t_1018 rfl))
  have hl := lv_entry ([.ref (ad 60), .int (nI a), .int (nI b), .int ks, .int d]) (n := 8) (Nat.le_of_ble_eq_true rfl)
  rw [lg_entry_eq]
  generalize (lg_sl ([.ref (ad 60), .int (nI a), .int (nI b), .int ks, .int d]) ++ List.replicate (8 - (lg_sl ([.ref (ad 60), .int (nI a), .int (nI b), .int ks, .int d])).length) Slot.unset).toArray = ls at hl ⊢
  have hl : lv_has ls 8 [(0, .ref (ad 60)), (1, .int (nI a)), (2, .int (nI b)), (3, .int ks), (4, .int d)] := hl
  refine w_q (fun Q hQ => ?_)
  have hw1 := hw.1
  have hla := hlst a ha
  have hlb := hlst b hb4
  refine lv_aload_n hx hb dX10_ways_0 rfl (lv_at hl 0 rfl) ?_
  refine lv_iconst (v := nI 0) hx hb dX10_ways_1 (by decide) ?_
  refine h_put (C := RX10) (T := TX10) (N := 38) hx hb hts i_RX10 tyX10 tyX10_ok nmX10 hown hI h60 rfl 0 (by decide) f_3 rfl rfl rfl rfl (Nat.le_of_ble_eq_true rfl) dX10_ways_2 (fun M_1 H_2 locs_3 eM_4 hI => ?_)
  have hm_5 : M_1 60 = some (cModel ad 0 n on ao vr sn tp pt zs bg fa) := by rw [eM_4]; exact va_up_self _ _ _
  have hm_6 : M_1 65 = some (aI G 120 (nF mk)) := by rw [eM_4, va_up_ne _ _ (by decide)]; exact h65
  have hm_7 : M_1 66 = some (aI G 120 mf) := by rw [eM_4, va_up_ne _ _ (by decide)]; exact h66
  have hm_8 : M_1 67 = some (aI G 120 mu) := by rw [eM_4, va_up_ne _ _ (by decide)]; exact h67
  have hm_9 : M_1 68 = some (aI G 121 (nF mz)) := by rw [eM_4, va_up_ne _ _ (by decide)]; exact h68
  have hm_10 : M_1 69 = some (aI G 726 (nF rr)) := by rw [eM_4, va_up_ne _ _ (by decide)]; exact h69
  have hm_11 : M_1 70 = some (aI G 726 (nF ee)) := by rw [eM_4, va_up_ne _ _ (by decide)]; exact h70
  have hm_12 : M_1 71 = some (aI G 40 (nF lst)) := by rw [eM_4, va_up_ne _ _ (by decide)]; exact h71
  have hm_13 : M_1 85 = some (aZ G 40 (bF re)) := by rw [eM_4, va_up_ne _ _ (by decide)]; exact h85
  have hm_14 : M_1 86 = some (aZ G 120 (bF us)) := by rw [eM_4, va_up_ne _ _ (by decide)]; exact h86
  have hm_15 : M_1 87 = some (aZ G 120 (bF ne)) := by rw [eM_4, va_up_ne _ _ (by decide)]; exact h87
  have hF_16 : ∀ j : Nat, j ≠ 60 → M_1 j = M j := fun j q0 => by rw [eM_4, va_up_ne _ _ q0]
  refine lv_aload_n hx hb dX10_ways_5 rfl (lv_at hl 0 rfl) ?_
  refine lv_iload_n hx hb dX10_ways_6 rfl (lv_at hl 1 rfl) ?_
  refine k_Ri (va_runS (As := [.int (nI a)]) (rest := [.ref (ad 60)]) ⟨hx, hb, hml, hown, hts⟩ (c_X10_noThing_0 l G z ad M_1 (t := a) (by omega)) (va_cwS 1 hts (gS (lwg_of t_1161 rfl) (lwg_of t_1162 rfl) (lwg_of t_13 rfl) (lwg_of t_1163 rfl)) rfl rfl rfl (by decide +kernel) ⟨Nat.le_of_ble_eq_true rfl, Nat.le_of_ble_eq_true rfl⟩) hI.preS rfl rfl hl.1 rfl (lv_room (Nat.le_of_ble_eq_true rfl)) dX10_ways_7 ⟨Nat.le_of_ble_eq_true rfl, Nat.le_of_ble_eq_true rfl⟩) (fun _ h => h) (fun r_17 hp_18 => ?_)
  rw [hp_18]
  refine lv_if_ne (tgt := 20) hx hb dX10_ways_10 (by decide) (fun c_19 => ?_) (fun c_19 => ?_)
  · -- 10: nI 0 ne
    exact absurd (by decide) c_19
  · -- 10: nI 0 eq
    refine lv_iload_n hx hb dX10_ways_13 rfl (lv_at hl 2 rfl) ?_
    refine k_Ri (va_runS (As := [.int (nI b)]) (rest := [.ref (ad 60)]) ⟨hx, hb, hml, hown, hts⟩ (c_X10_noThing_0 l G z ad M_1 (t := b) (by omega)) (va_cwS 1 hts (gS (lwg_of t_1161 rfl) (lwg_of t_1162 rfl) (lwg_of t_13 rfl) (lwg_of t_1163 rfl)) rfl rfl rfl (by decide +kernel) ⟨Nat.le_of_ble_eq_true rfl, Nat.le_of_ble_eq_true rfl⟩) hI.preS rfl rfl hl.1 rfl (lv_room (Nat.le_of_ble_eq_true rfl)) dX10_ways_14 ⟨Nat.le_of_ble_eq_true rfl, Nat.le_of_ble_eq_true rfl⟩) (fun _ h => h) (fun r_20 hp_21 => ?_)
    rw [hp_21]
    refine lv_if_eq (tgt := 24) hx hb dX10_ways_17 (by decide) (fun c_22 => ?_) (fun c_22 => ?_)
    · -- 17: nI 0 eq
      refine lv_iconst (v := nI 0) hx hb dX10_ways_24 (by decide) ?_
      refine lv_iconst (v := nI 1) hx hb dX10_ways_25 (by decide) ?_
      refine k_Ri (va_runV (As := [.int (nI 0), .int (nI 1)]) (rest := []) ⟨hx, hb, hml, hown, hts⟩ (c_X10_throwsIf_0 l G z ad M_1 (th := 0) (ln := n) (on := on) (ao := ao) (vr := vr) (sn := sn) (tp := tp) (pt := pt) (zs := zs) (bg := bg) (fa := fa) (c0 := 1) hm_5) (cwV 2 hts (gV (lwg_of t_1141 rfl) (lwg_of t_1143 rfl) (lwg_of ts_23 rfl) (lwg_of t_13 rfl) (lwg_of t_1144 rfl)) rfl rfl rfl (by decide +kernel) ⟨Nat.le_of_ble_eq_true rfl, Nat.le_of_ble_eq_true rfl⟩) (hI.preV hm_5 rfl) rfl rfl hl.1 rfl (lv_room (Nat.le_of_ble_eq_true rfl)) dX10_ways_26 ⟨Nat.le_of_ble_eq_true rfl, Nat.le_of_ble_eq_true rfl⟩) (fun _ h => h) (fun r_23 hp_24 => ?_)
      rw [hp_24]
      refine lv_if_eq (tgt := 34) hx hb dX10_ways_29 (by decide) (fun c_25 => ?_) (fun c_25 => ?_)
      · -- 29: nI 0 eq
        refine lv_iconst (v := nI 0) hx hb dX10_ways_34 (by decide) ?_
        refine lv_istore (lv' := [(5, .int (nI 0)), (0, .ref (ad 60)), (1, .int (nI a)), (2, .int (nI b)), (3, .int ks), (4, .int d)]) hx hb dX10_ways_35 hl (by decide) rfl (fun ls hl => ?_)
        have lp37_26 : ∀ (fuel : Nat) (i : Nat) (g : Nat → Bool) (Mx : Mem) (Hx : Heap) (locsx : List Loc) (ls : Array Slot), (40 - i) < fuel → (i ≤ 40) → (∀ t, t < i → g t = false) → Iv G z ad Mx s Hx locsx → Mx 60 = some (cModel ad 0 n on ao vr sn tp pt zs bg fa) → Mx 85 = some (aZ G 40 (bF g)) → (∀ j : Nat, j ≠ 60 → j ≠ 85 → Mx j = M j) → lv_has ls 8 [(0, .ref (ad 60)), (1, .int (nI a)), (2, .int (nI b)), (3, .int ks), (4, .int d), (5, .int (nI i))] → W p l e (headSpec wsX10_ways rm_c_X10_ways).room s m ([.ref (ad 60), .int (nI a), .int (nI b), .int ks, .int d] : List Value).toArray below meth c Hx locsx 0 0 Q (F0 m 37 ls []) := by
          intro fuel
          induction fuel with
          | zero => intro i g Mx Hx locsx ls hfu hi hg hI hm_27 hm_28 hF_30 hl; exact absurd hfu (Nat.not_lt_zero _)
          | succ fuel ih_31 =>
            intro i g Mx Hx locsx ls hfu hi hg hI hm_27 hm_28 hF_30 hl
            have hm_32 : Mx 65 = some (aI G 120 (nF mk)) := by rw [hF_30 65 (by omega) (by omega)]; exact h65
            have hm_33 : Mx 66 = some (aI G 120 mf) := by rw [hF_30 66 (by omega) (by omega)]; exact h66
            have hm_34 : Mx 67 = some (aI G 120 mu) := by rw [hF_30 67 (by omega) (by omega)]; exact h67
            have hm_35 : Mx 68 = some (aI G 121 (nF mz)) := by rw [hF_30 68 (by omega) (by omega)]; exact h68
            have hm_36 : Mx 69 = some (aI G 726 (nF rr)) := by rw [hF_30 69 (by omega) (by omega)]; exact h69
            have hm_37 : Mx 70 = some (aI G 726 (nF ee)) := by rw [hF_30 70 (by omega) (by omega)]; exact h70
            have hm_38 : Mx 71 = some (aI G 40 (nF lst)) := by rw [hF_30 71 (by omega) (by omega)]; exact h71
            have hm_39 : Mx 86 = some (aZ G 120 (bF us)) := by rw [hF_30 86 (by omega) (by omega)]; exact h86
            have hm_40 : Mx 87 = some (aZ G 120 (bF ne)) := by rw [hF_30 87 (by omega) (by omega)]; exact h87
            refine lv_iload hx hb dX10_ways_37 (lv_at hl 5 rfl) ?_
            refine lv_bipush (v := nI 40) hx hb dX10_ways_39 (by decide) ?_
            refine lv_icmp_ge (tgt := 58) hx hb dX10_ways_41 (by decide) (fun c_41 => ?_) (fun c_41 => ?_)
            · -- 41: nI i ge
              have c_41 : 40 ≤ i := (nI_leI (a := 40) (b := i) (by omega) (by omega)).mp (c_41)
              refine lv_iconst (v := nI 0) hx hb dX10_ways_58 (by decide) ?_
              refine lv_istore (lv' := [(5, .int (nI 0)), (0, .ref (ad 60)), (1, .int (nI a)), (2, .int (nI b)), (3, .int ks), (4, .int d)]) hx hb dX10_ways_59 hl (by decide) rfl (fun ls hl => ?_)
              have lp61_42 : ∀ (fuel : Nat) (i2 : Nat) (u : Nat → Bool) (Mx : Mem) (Hx : Heap) (locsx : List Loc) (ls : Array Slot), (n - i2) < fuel → (i2 ≤ n) → (∀ l, l < i2 → u l = !(kbit ks (kd l) && decide (fm l ≤ d ∧ d ≤ to l))) → Iv G z ad Mx s Hx locsx → Mx 60 = some (cModel ad 0 n on ao vr sn tp pt zs bg fa) → Mx 85 = some (aZ G 40 (bF g)) → Mx 86 = some (aZ G 120 (bF u)) → (∀ j : Nat, j ≠ 60 → j ≠ 85 → j ≠ 86 → Mx j = M j) → lv_has ls 8 [(0, .ref (ad 60)), (1, .int (nI a)), (2, .int (nI b)), (3, .int ks), (4, .int d), (5, .int (nI i2))] → W p l e (headSpec wsX10_ways rm_c_X10_ways).room s m ([.ref (ad 60), .int (nI a), .int (nI b), .int ks, .int d] : List Value).toArray below meth c Hx locsx 0 0 Q (F0 m 61 ls []) := by
                intro fuel
                induction fuel with
                | zero => intro i2 u Mx Hx locsx ls hfu hi2 hu hI hm_43 hm_44 hm_45 hF_47 hl; exact absurd hfu (Nat.not_lt_zero _)
                | succ fuel ih_48 =>
                  intro i2 u Mx Hx locsx ls hfu hi2 hu hI hm_43 hm_44 hm_45 hF_47 hl
                  have hm_49 : Mx 65 = some (aI G 120 (nF mk)) := by rw [hF_47 65 (by omega) (by omega) (by omega)]; exact h65
                  have hm_50 : Mx 66 = some (aI G 120 mf) := by rw [hF_47 66 (by omega) (by omega) (by omega)]; exact h66
                  have hm_51 : Mx 67 = some (aI G 120 mu) := by rw [hF_47 67 (by omega) (by omega) (by omega)]; exact h67
                  have hm_52 : Mx 68 = some (aI G 121 (nF mz)) := by rw [hF_47 68 (by omega) (by omega) (by omega)]; exact h68
                  have hm_53 : Mx 69 = some (aI G 726 (nF rr)) := by rw [hF_47 69 (by omega) (by omega) (by omega)]; exact h69
                  have hm_54 : Mx 70 = some (aI G 726 (nF ee)) := by rw [hF_47 70 (by omega) (by omega) (by omega)]; exact h70
                  have hm_55 : Mx 71 = some (aI G 40 (nF lst)) := by rw [hF_47 71 (by omega) (by omega) (by omega)]; exact h71
                  have hm_56 : Mx 87 = some (aZ G 120 (bF ne)) := by rw [hF_47 87 (by omega) (by omega) (by omega)]; exact h87
                  refine lv_iload hx hb dX10_ways_61 (lv_at hl 5 rfl) ?_
                  refine lv_aload_n hx hb dX10_ways_63 rfl (lv_at hl 0 rfl) ?_
                  refine h_get (C := RX10) (T := TX10) (N := 38) hx hb hts i_RX10 hown hI hm_43 rfl 11 (by decide) f_108 rfl rfl dX10_ways_64 ?_
                  refine lv_icmp_ge (tgt := 113) hx hb dX10_ways_67 (by decide) (fun c_57 => ?_) (fun c_57 => ?_)
                  · -- 67: nI i2 ge
                    have c_57 : n ≤ i2 := (nI_leI (a := n) (b := i2) (by omega) (by omega)).mp (c_57)
                    refine lv_aload_n hx hb dX10_ways_113 rfl (lv_at hl 0 rfl) ?_
                    refine h_get (C := RX10) (T := TX10) (N := 38) hx hb hts i_RX10 hown hI hm_43 rfl 35 (by decide) f_92 rfl rfl dX10_ways_114 ?_
                    refine lv_aload_n hx hb dX10_ways_117 rfl (lv_at hl 0 rfl) ?_
                    refine h_get (C := RX10) (T := TX10) (N := 38) hx hb hts i_RX10 hown hI hm_43 rfl 12 (by decide) f_45 rfl rfl dX10_ways_118 ?_
                    refine lv_iload_n hx hb dX10_ways_121 rfl (lv_at hl 1 rfl) ?_
                    refine h_iald (i := a) hx hb hI hm_55 (by omega) (by decide) dX10_ways_122 ?_
                    refine lv_iconst (v := nI 1) hx hb dX10_ways_123 (by decide) ?_
                    refine h_zast (i := lst a) (x := nI 1) hx hb hI hm_44 (by omega) (by decide) rfl dX10_ways_124 (fun M_58 H_59 locs_60 eM_61 hI => ?_)
                    rw [upd_bF_1] at eM_61
                    have hm_62 : M_58 65 = some (aI G 120 (nF mk)) := by rw [eM_61, va_up_ne _ _ (by decide)]; exact hm_49
                    have hm_63 : M_58 66 = some (aI G 120 mf) := by rw [eM_61, va_up_ne _ _ (by decide)]; exact hm_50
                    have hm_64 : M_58 67 = some (aI G 120 mu) := by rw [eM_61, va_up_ne _ _ (by decide)]; exact hm_51
                    have hm_65 : M_58 68 = some (aI G 121 (nF mz)) := by rw [eM_61, va_up_ne _ _ (by decide)]; exact hm_52
                    have hm_66 : M_58 69 = some (aI G 726 (nF rr)) := by rw [eM_61, va_up_ne _ _ (by decide)]; exact hm_53
                    have hm_67 : M_58 70 = some (aI G 726 (nF ee)) := by rw [eM_61, va_up_ne _ _ (by decide)]; exact hm_54
                    have hm_68 : M_58 71 = some (aI G 40 (nF lst)) := by rw [eM_61, va_up_ne _ _ (by decide)]; exact hm_55
                    have hm_69 : M_58 87 = some (aZ G 120 (bF ne)) := by rw [eM_61, va_up_ne _ _ (by decide)]; exact hm_56
                    have hm_70 : M_58 60 = some (cModel ad 0 n on ao vr sn tp pt zs bg fa) := by rw [eM_61, va_up_ne _ _ (by decide)]; exact hm_43
                    have hm_71 : M_58 85 = some (aZ G 40 (bF (va_up g (lst a) true))) := by rw [eM_61]; exact va_up_self _ _ _
                    have hm_72 : M_58 86 = some (aZ G 120 (bF u)) := by rw [eM_61, va_up_ne _ _ (by decide)]; exact hm_45
                    have hF_73 : ∀ j : Nat, j ≠ 60 → j ≠ 85 → j ≠ 86 → M_58 j = M j := fun j q0 q1 q2 => by rw [eM_61, va_up_ne _ _ q1]; exact hF_47 j q0 q1 q2
                    refine lv_iconst (v := nI 0) hx hb dX10_ways_125 (by decide) ?_
                    refine lv_istore (lv' := [(5, .int (nI 0)), (0, .ref (ad 60)), (1, .int (nI a)), (2, .int (nI b)), (3, .int ks), (4, .int d)]) hx hb dX10_ways_126 hl (by decide) rfl (fun ls hl => ?_)
                    have lp128_74 : ∀ (fuel : Nat) (k : Nat) (gr : Nat → Bool) (uu : Nat → Bool) (ww : Nat → Bool) (Mx : Mem) (Hx : Heap) (locsx : List Loc) (ls : Array Slot), (121 - k) < fuel → (k ≤ 121) → (∀ t, t < 40 → (gr t = true ↔ Rch n kd fm to sz en lst ks d (lst a) k t)) → (wUs n kd fm to sz en lst ks d gr uu) → (∀ j, j < k → ¬ Rch n kd fm to sz en lst ks d (lst a) j (lst b)) → Iv G z ad Mx s Hx locsx → Mx 60 = some (cModel ad 0 n on ao vr sn tp pt zs bg fa) → Mx 85 = some (aZ G 40 (bF gr)) → Mx 86 = some (aZ G 120 (bF uu)) → Mx 87 = some (aZ G 120 (bF ww)) → (∀ j : Nat, j ≠ 60 → j ≠ 85 → j ≠ 86 → j ≠ 87 → Mx j = M j) → lv_has ls 8 [(0, .ref (ad 60)), (1, .int (nI a)), (2, .int (nI b)), (3, .int ks), (4, .int d), (5, .int (nI k))] → W p l e (headSpec wsX10_ways rm_c_X10_ways).room s m ([.ref (ad 60), .int (nI a), .int (nI b), .int ks, .int d] : List Value).toArray below meth c Hx locsx 0 0 Q (F0 m 128 ls []) := by
                      intro fuel
                      induction fuel with
                      | zero => intro k gr uu ww Mx Hx locsx ls hfu hk hgr huu hno hI hm_75 hm_76 hm_77 hm_78 hF_80 hl; exact absurd hfu (Nat.not_lt_zero _)
                      | succ fuel ih_81 =>
                        intro k gr uu ww Mx Hx locsx ls hfu hk hgr huu hno hI hm_75 hm_76 hm_77 hm_78 hF_80 hl
                        have hm_82 : Mx 65 = some (aI G 120 (nF mk)) := by rw [hF_80 65 (by omega) (by omega) (by omega) (by omega)]; exact h65
                        have hm_83 : Mx 66 = some (aI G 120 mf) := by rw [hF_80 66 (by omega) (by omega) (by omega) (by omega)]; exact h66
                        have hm_84 : Mx 67 = some (aI G 120 mu) := by rw [hF_80 67 (by omega) (by omega) (by omega) (by omega)]; exact h67
                        have hm_85 : Mx 68 = some (aI G 121 (nF mz)) := by rw [hF_80 68 (by omega) (by omega) (by omega) (by omega)]; exact h68
                        have hm_86 : Mx 69 = some (aI G 726 (nF rr)) := by rw [hF_80 69 (by omega) (by omega) (by omega) (by omega)]; exact h69
                        have hm_87 : Mx 70 = some (aI G 726 (nF ee)) := by rw [hF_80 70 (by omega) (by omega) (by omega) (by omega)]; exact h70
                        have hm_88 : Mx 71 = some (aI G 40 (nF lst)) := by rw [hF_80 71 (by omega) (by omega) (by omega) (by omega)]; exact h71
                        refine lv_iload hx hb dX10_ways_128 (lv_at hl 5 rfl) ?_
                        refine lv_bipush (v := nI 120) hx hb dX10_ways_130 (by decide) ?_
                        refine lv_icmp_gt (tgt := 307) hx hb dX10_ways_132 (by decide) (fun c_89 => ?_) (fun c_89 => ?_)
                        · -- 132: nI k gt
                          have c_89 : 120 < k := (nI_ltI (a := 120) (b := k) (by omega) (by omega)).mp (c_89)
                          refine lv_iconst (v := (-1)) hx hb dX10_ways_307 (by decide) ?_
                          subst hQ
                          exact e_Ni hx hb hr rfl hlocks hI ⟨gr, uu, ww, hm_75, hm_76, hm_77, hm_78, (fun j q0 q1 q2 q3 => hF_80 j q0 q1 q2 q3), ⟨none, rfl, (fun i9 h9 => by cases h9), fun _ j9 h9 => hno j9 (by omega)⟩⟩ dX10_ways_308
                        · -- 132: nI k le
                          have c_89 : k ≤ 120 := by have h := mt (nI_ltI (a := 120) (b := k) (by omega) (by omega)).mpr c_89; omega
                          refine lv_aload_n hx hb dX10_ways_135 rfl (lv_at hl 0 rfl) ?_
                          refine h_get (C := RX10) (T := TX10) (N := 38) hx hb hts i_RX10 hown hI hm_75 rfl 35 (by decide) f_92 rfl rfl dX10_ways_136 ?_
                          refine lv_aload_n hx hb dX10_ways_139 rfl (lv_at hl 0 rfl) ?_
                          refine h_get (C := RX10) (T := TX10) (N := 38) hx hb hts i_RX10 hown hI hm_75 rfl 12 (by decide) f_45 rfl rfl dX10_ways_140 ?_
                          refine lv_iload_n hx hb dX10_ways_143 rfl (lv_at hl 2 rfl) ?_
                          refine h_iald (i := b) hx hb hI hm_88 (by omega) (by decide) dX10_ways_144 ?_
                          refine h_zald (i := lst b) hx hb hI hm_76 (by omega) (by decide) dX10_ways_145 ?_
                          refine lv_if_eq (tgt := 152) hx hb dX10_ways_146 (by decide) (fun c_90 => ?_) (fun c_90 => ?_)
                          · -- 146: bI (gr (lst b)) eq
                            have c_90 : gr (lst b) = false := bI_f (c_90)
                            refine lv_iconst (v := nI 0) hx hb dX10_ways_152 (by decide) ?_
                            refine lv_istore (lv' := [(6, .int (nI 0)), (0, .ref (ad 60)), (1, .int (nI a)), (2, .int (nI b)), (3, .int ks), (4, .int d), (5, .int (nI k))]) hx hb dX10_ways_153 hl (by decide) rfl (fun ls hl => ?_)
                            have lp155_91 : ∀ (fuel : Nat) (i4 : Nat) (w4 : Nat → Bool) (Mx : Mem) (Hx : Heap) (locsx : List Loc) (ls : Array Slot), (n - i4) < fuel → (i4 ≤ n) → (∀ l, l < i4 → w4 l = (!uu l && tch gr (en l) lst (sz l))) → Iv G z ad Mx s Hx locsx → Mx 60 = some (cModel ad 0 n on ao vr sn tp pt zs bg fa) → Mx 85 = some (aZ G 40 (bF gr)) → Mx 86 = some (aZ G 120 (bF uu)) → Mx 87 = some (aZ G 120 (bF w4)) → (∀ j : Nat, j ≠ 60 → j ≠ 85 → j ≠ 86 → j ≠ 87 → Mx j = M j) → lv_has ls 8 [(0, .ref (ad 60)), (1, .int (nI a)), (2, .int (nI b)), (3, .int ks), (4, .int d), (5, .int (nI k)), (6, .int (nI i4))] → W p l e (headSpec wsX10_ways rm_c_X10_ways).room s m ([.ref (ad 60), .int (nI a), .int (nI b), .int ks, .int d] : List Value).toArray below meth c Hx locsx 0 0 Q (F0 m 155 ls []) := by
                              intro fuel
                              induction fuel with
                              | zero => intro i4 w4 Mx Hx locsx ls hfu hi4 hw4 hI hm_92 hm_93 hm_94 hm_95 hF_97 hl; exact absurd hfu (Nat.not_lt_zero _)
                              | succ fuel ih_98 =>
                                intro i4 w4 Mx Hx locsx ls hfu hi4 hw4 hI hm_92 hm_93 hm_94 hm_95 hF_97 hl
                                have hm_99 : Mx 65 = some (aI G 120 (nF mk)) := by rw [hF_97 65 (by omega) (by omega) (by omega) (by omega)]; exact h65
                                have hm_100 : Mx 66 = some (aI G 120 mf) := by rw [hF_97 66 (by omega) (by omega) (by omega) (by omega)]; exact h66
                                have hm_101 : Mx 67 = some (aI G 120 mu) := by rw [hF_97 67 (by omega) (by omega) (by omega) (by omega)]; exact h67
                                have hm_102 : Mx 68 = some (aI G 121 (nF mz)) := by rw [hF_97 68 (by omega) (by omega) (by omega) (by omega)]; exact h68
                                have hm_103 : Mx 69 = some (aI G 726 (nF rr)) := by rw [hF_97 69 (by omega) (by omega) (by omega) (by omega)]; exact h69
                                have hm_104 : Mx 70 = some (aI G 726 (nF ee)) := by rw [hF_97 70 (by omega) (by omega) (by omega) (by omega)]; exact h70
                                have hm_105 : Mx 71 = some (aI G 40 (nF lst)) := by rw [hF_97 71 (by omega) (by omega) (by omega) (by omega)]; exact h71
                                refine lv_iload hx hb dX10_ways_155 (lv_at hl 6 rfl) ?_
                                refine lv_aload_n hx hb dX10_ways_157 rfl (lv_at hl 0 rfl) ?_
                                refine h_get (C := RX10) (T := TX10) (N := 38) hx hb hts i_RX10 hown hI hm_92 rfl 11 (by decide) f_108 rfl rfl dX10_ways_158 ?_
                                refine lv_icmp_ge (tgt := 201) hx hb dX10_ways_161 (by decide) (fun c_106 => ?_) (fun c_106 => ?_)
                                · -- 161: nI i4 ge
                                  have c_106 : n ≤ i4 := (nI_leI (a := n) (b := i4) (by omega) (by omega)).mp (c_106)
                                  have hww4 : ∀ l, l < n → w4 l = (!uu l && tch gr (en l) lst (sz l)) := fun l hl => hw4 l (by omega)
                                  refine lv_iconst (v := nI 0) hx hb dX10_ways_201 (by decide) ?_
                                  refine lv_istore (lv' := [(6, .int (nI 0)), (0, .ref (ad 60)), (1, .int (nI a)), (2, .int (nI b)), (3, .int ks), (4, .int d), (5, .int (nI k))]) hx hb dX10_ways_202 hl (by decide) rfl (fun ls hl => ?_)
                                  have lp204_107 : ∀ (fuel : Nat) (i5 : Nat) (g5 : Nat → Bool) (u5 : Nat → Bool) (Mx : Mem) (Hx : Heap) (locsx : List Loc) (ls : Array Slot), (n - i5) < fuel → (i5 ≤ n) → (∀ t, t < 40 → (g5 t = true ↔ gr t = true ∨ ∃ l, l < i5 ∧ w4 l = true ∧ aS (thE (en l)) lst (sz l) t)) → (∀ l, u5 l = (uu l || (decide (l < i5) && w4 l))) → Iv G z ad Mx s Hx locsx → Mx 60 = some (cModel ad 0 n on ao vr sn tp pt zs bg fa) → Mx 85 = some (aZ G 40 (bF g5)) → Mx 86 = some (aZ G 120 (bF u5)) → Mx 87 = some (aZ G 120 (bF w4)) → (∀ j : Nat, j ≠ 60 → j ≠ 85 → j ≠ 86 → j ≠ 87 → Mx j = M j) → lv_has ls 8 [(0, .ref (ad 60)), (1, .int (nI a)), (2, .int (nI b)), (3, .int ks), (4, .int d), (5, .int (nI k)), (6, .int (nI i5))] → W p l e (headSpec wsX10_ways rm_c_X10_ways).room s m ([.ref (ad 60), .int (nI a), .int (nI b), .int ks, .int d] : List Value).toArray below meth c Hx locsx 0 0 Q (F0 m 204 ls []) := by
                                    intro fuel
                                    induction fuel with
                                    | zero => intro i5 g5 u5 Mx Hx locsx ls hfu hi5 hg5 hu5 hI hm_108 hm_109 hm_110 hm_111 hF_113 hl; exact absurd hfu (Nat.not_lt_zero _)
                                    | succ fuel ih_114 =>
                                      intro i5 g5 u5 Mx Hx locsx ls hfu hi5 hg5 hu5 hI hm_108 hm_109 hm_110 hm_111 hF_113 hl
                                      have hm_115 : Mx 65 = some (aI G 120 (nF mk)) := by rw [hF_113 65 (by omega) (by omega) (by omega) (by omega)]; exact h65
                                      have hm_116 : Mx 66 = some (aI G 120 mf) := by rw [hF_113 66 (by omega) (by omega) (by omega) (by omega)]; exact h66
                                      have hm_117 : Mx 67 = some (aI G 120 mu) := by rw [hF_113 67 (by omega) (by omega) (by omega) (by omega)]; exact h67
                                      have hm_118 : Mx 68 = some (aI G 121 (nF mz)) := by rw [hF_113 68 (by omega) (by omega) (by omega) (by omega)]; exact h68
                                      have hm_119 : Mx 69 = some (aI G 726 (nF rr)) := by rw [hF_113 69 (by omega) (by omega) (by omega) (by omega)]; exact h69
                                      have hm_120 : Mx 70 = some (aI G 726 (nF ee)) := by rw [hF_113 70 (by omega) (by omega) (by omega) (by omega)]; exact h70
                                      have hm_121 : Mx 71 = some (aI G 40 (nF lst)) := by rw [hF_113 71 (by omega) (by omega) (by omega) (by omega)]; exact h71
                                      refine lv_iload hx hb dX10_ways_204 (lv_at hl 6 rfl) ?_
                                      refine lv_aload_n hx hb dX10_ways_206 rfl (lv_at hl 0 rfl) ?_
                                      refine h_get (C := RX10) (T := TX10) (N := 38) hx hb hts i_RX10 hown hI hm_108 rfl 11 (by decide) f_108 rfl rfl dX10_ways_207 ?_
                                      refine lv_icmp_ge (tgt := 301) hx hb dX10_ways_210 (by decide) (fun c_122 => ?_) (fun c_122 => ?_)
                                      · -- 210: nI i5 ge
                                        have c_122 : n ≤ i5 := (nI_leI (a := n) (b := i5) (by omega) (by omega)).mp (c_122)
                                        have hg5n : ∀ t, t < 40 → (g5 t = true ↔ gr t = true ∨ ∃ l, l < n ∧ w4 l = true ∧ aS (thE (en l)) lst (sz l) t) := fun t ht => by rw [hg5 t ht, show i5 = n by omega]
                                        have hu5n : ∀ l, u5 l = (uu l || (decide (l < n) && w4 l)) := fun l => by rw [hu5 l, show i5 = n by omega]
                                        refine lv_iinc (v := nI (k + 1)) (lv' := [(5, .int (nI (k + 1))), (0, .ref (ad 60)), (1, .int (nI a)), (2, .int (nI b)), (3, .int ks), (4, .int d), (6, .int (nI i5))]) hx hb dX10_ways_301 hl (k := 5) rfl (nI_add k 1) (by decide) rfl (fun ls hl => ?_)
                                        refine lv_goto (tgt := 128) hx hb dX10_ways_304 (by decide) ?_
                                        exact ih_81 (k + 1) g5 u5 w4 Mx Hx locsx ls (by omega) (by omega) (way_nx hw hlst hgr huu hww4 hg5n) (way_us huu hww4 hg5n hu5n) (lt_s2 hno (fun h9 => absurd ((hgr _ hlb).mpr h9) (by rw [show gr (lst b) = false by assumption]; decide))) hI hm_108 hm_109 hm_110 hm_111 (fun j q0 q1 q2 q3 => hF_113 j q0 q1 q2 q3) (lv_sub hl [1, 2, 3, 4, 5, 0] rfl)
                                      · -- 210: nI i5 lt
                                        have c_122 : i5 < n := by have h := mt (nI_leI (a := n) (b := i5) (by omega) (by omega)).mpr c_122; omega
                                        obtain ⟨hmk, hmf, hmt, hmz, hmj⟩ := hmr i5 (by omega)
                                        obtain ⟨hk6, hs6, hje⟩ := hw.2 i5 (by omega)
                                        refine lv_aload_n hx hb dX10_ways_213 rfl (lv_at hl 0 rfl) ?_
                                        refine h_get (C := RX10) (T := TX10) (N := 38) hx hb hts i_RX10 hown hI hm_108 rfl 37 (by decide) f_98 rfl rfl dX10_ways_214 ?_
                                        refine lv_iload hx hb dX10_ways_217 (lv_at hl 6 rfl) ?_
                                        refine h_zald (i := i5) hx hb hI hm_111 (by omega) (by decide) dX10_ways_219 ?_
                                        refine lv_if_ne (tgt := 226) hx hb dX10_ways_220 (by decide) (fun c_123 => ?_) (fun c_123 => ?_)
                                        · -- 220: bI (w4 i5) ne
                                          have c_123 : w4 i5 = true := bI_t (c_123)
                                          refine lv_aload_n hx hb dX10_ways_226 rfl (lv_at hl 0 rfl) ?_
                                          refine h_get (C := RX10) (T := TX10) (N := 38) hx hb hts i_RX10 hown hI hm_108 rfl 36 (by decide) f_95 rfl rfl dX10_ways_227 ?_
                                          refine lv_iload hx hb dX10_ways_230 (lv_at hl 6 rfl) ?_
                                          refine lv_iconst (v := nI 1) hx hb dX10_ways_232 (by decide) ?_
                                          refine h_zast (i := i5) (x := nI 1) hx hb hI hm_110 (by omega) (by decide) rfl dX10_ways_233 (fun M_124 H_125 locs_126 eM_127 hI => ?_)
                                          rw [upd_bF_1] at eM_127
                                          have hm_128 : M_124 65 = some (aI G 120 (nF mk)) := by rw [eM_127, va_up_ne _ _ (by decide)]; exact hm_115
                                          have hm_129 : M_124 66 = some (aI G 120 mf) := by rw [eM_127, va_up_ne _ _ (by decide)]; exact hm_116
                                          have hm_130 : M_124 67 = some (aI G 120 mu) := by rw [eM_127, va_up_ne _ _ (by decide)]; exact hm_117
                                          have hm_131 : M_124 68 = some (aI G 121 (nF mz)) := by rw [eM_127, va_up_ne _ _ (by decide)]; exact hm_118
                                          have hm_132 : M_124 69 = some (aI G 726 (nF rr)) := by rw [eM_127, va_up_ne _ _ (by decide)]; exact hm_119
                                          have hm_133 : M_124 70 = some (aI G 726 (nF ee)) := by rw [eM_127, va_up_ne _ _ (by decide)]; exact hm_120
                                          have hm_134 : M_124 71 = some (aI G 40 (nF lst)) := by rw [eM_127, va_up_ne _ _ (by decide)]; exact hm_121
                                          have hm_135 : M_124 60 = some (cModel ad 0 n on ao vr sn tp pt zs bg fa) := by rw [eM_127, va_up_ne _ _ (by decide)]; exact hm_108
                                          have hm_136 : M_124 85 = some (aZ G 40 (bF g5)) := by rw [eM_127, va_up_ne _ _ (by decide)]; exact hm_109
                                          have hm_137 : M_124 86 = some (aZ G 120 (bF (va_up u5 i5 true))) := by rw [eM_127]; exact va_up_self _ _ _
                                          have hm_138 : M_124 87 = some (aZ G 120 (bF w4)) := by rw [eM_127, va_up_ne _ _ (by decide)]; exact hm_111
                                          have hF_139 : ∀ j : Nat, j ≠ 60 → j ≠ 85 → j ≠ 86 → j ≠ 87 → M_124 j = M j := fun j q0 q1 q2 q3 => by rw [eM_127, va_up_ne _ _ q2]; exact hF_113 j q0 q1 q2 q3
                                          refine lv_bipush (v := nI 6) hx hb dX10_ways_234 (by decide) ?_
                                          refine lv_iload hx hb dX10_ways_236 (lv_at hl 6 rfl) ?_
                                          refine lv_imul hx hb dX10_ways_238 ?_
                                          refine n_eq (pk_mul 6 i5) ?_
                                          refine lv_istore (lv' := [(7, .int (nI (6 * i5))), (0, .ref (ad 60)), (1, .int (nI a)), (2, .int (nI b)), (3, .int ks), (4, .int d), (5, .int (nI k)), (6, .int (nI i5))]) hx hb dX10_ways_239 hl (by decide) rfl (fun ls hl => ?_)
                                          have lp241_140 : ∀ (fuel : Nat) (j6 : Nat) (g6 : Nat → Bool) (Mx : Mem) (Hx : Heap) (locsx : List Loc) (ls : Array Slot), (sz i5 - j6) < fuel → (j6 ≤ sz i5) → (∀ t, t < 40 → (g6 t = true ↔ g5 t = true ∨ aS (thE (en i5)) lst j6 t)) → Iv G z ad Mx s Hx locsx → Mx 60 = some (cModel ad 0 n on ao vr sn tp pt zs bg fa) → Mx 85 = some (aZ G 40 (bF g6)) → Mx 86 = some (aZ G 120 (bF (va_up u5 i5 true))) → Mx 87 = some (aZ G 120 (bF w4)) → (∀ j : Nat, j ≠ 60 → j ≠ 85 → j ≠ 86 → j ≠ 87 → Mx j = M j) → lv_has ls 8 [(0, .ref (ad 60)), (1, .int (nI a)), (2, .int (nI b)), (3, .int ks), (4, .int d), (5, .int (nI k)), (6, .int (nI i5)), (7, .int (nI (6 * i5 + j6)))] → W p l e (headSpec wsX10_ways rm_c_X10_ways).room s m ([.ref (ad 60), .int (nI a), .int (nI b), .int ks, .int d] : List Value).toArray below meth c Hx locsx 0 0 Q (F0 m 241 ls []) := by
                                            intro fuel
                                            induction fuel with
                                            | zero => intro j6 g6 Mx Hx locsx ls hfu hj6 hg6 hI hm_141 hm_142 hm_143 hm_144 hF_146 hl; exact absurd hfu (Nat.not_lt_zero _)
                                            | succ fuel ih_147 =>
                                              intro j6 g6 Mx Hx locsx ls hfu hj6 hg6 hI hm_141 hm_142 hm_143 hm_144 hF_146 hl
                                              have hm_148 : Mx 65 = some (aI G 120 (nF mk)) := by rw [hF_146 65 (by omega) (by omega) (by omega) (by omega)]; exact h65
                                              have hm_149 : Mx 66 = some (aI G 120 mf) := by rw [hF_146 66 (by omega) (by omega) (by omega) (by omega)]; exact h66
                                              have hm_150 : Mx 67 = some (aI G 120 mu) := by rw [hF_146 67 (by omega) (by omega) (by omega) (by omega)]; exact h67
                                              have hm_151 : Mx 68 = some (aI G 121 (nF mz)) := by rw [hF_146 68 (by omega) (by omega) (by omega) (by omega)]; exact h68
                                              have hm_152 : Mx 69 = some (aI G 726 (nF rr)) := by rw [hF_146 69 (by omega) (by omega) (by omega) (by omega)]; exact h69
                                              have hm_153 : Mx 70 = some (aI G 726 (nF ee)) := by rw [hF_146 70 (by omega) (by omega) (by omega) (by omega)]; exact h70
                                              have hm_154 : Mx 71 = some (aI G 40 (nF lst)) := by rw [hF_146 71 (by omega) (by omega) (by omega) (by omega)]; exact h71
                                              refine lv_iload hx hb dX10_ways_241 (lv_at hl 7 rfl) ?_
                                              refine lv_bipush (v := nI 6) hx hb dX10_ways_243 (by decide) ?_
                                              refine lv_iload hx hb dX10_ways_245 (lv_at hl 6 rfl) ?_
                                              refine lv_imul hx hb dX10_ways_247 ?_
                                              refine n_eq (pk_mul 6 i5) ?_
                                              refine lv_aload_n hx hb dX10_ways_248 rfl (lv_at hl 0 rfl) ?_
                                              refine h_get (C := RX10) (T := TX10) (N := 38) hx hb hts i_RX10 hown hI hm_141 rfl 8 (by decide) f_36 rfl rfl dX10_ways_249 ?_
                                              refine lv_iload hx hb dX10_ways_252 (lv_at hl 6 rfl) ?_
                                              refine h_iald (i := i5) hx hb hI hm_151 (by omega) (by decide) dX10_ways_254 ?_
                                              refine n_eq (show _ = nI (sz i5) from congrArg nI hmz) ?_
                                              refine lv_iadd hx hb dX10_ways_255 ?_
                                              refine n_eq (nI_add (6 * i5) (sz i5)) ?_
                                              refine lv_icmp_ge (tgt := 295) hx hb dX10_ways_256 (by decide) (fun c_155 => ?_) (fun c_155 => ?_)
                                              · -- 256: nI (6 * i5 + j6) ge
                                                have c_155 : (6 * i5) + (sz i5) ≤ 6 * i5 + j6 := (nI_leI (a := (6 * i5) + (sz i5)) (b := 6 * i5 + j6) (by omega) (by omega)).mp (c_155)
                                                refine lv_iinc (v := nI (i5 + 1)) (lv' := [(6, .int (nI (i5 + 1))), (0, .ref (ad 60)), (1, .int (nI a)), (2, .int (nI b)), (3, .int ks), (4, .int d), (5, .int (nI k)), (7, .int (nI (6 * i5 + j6)))]) hx hb dX10_ways_295 hl (k := 6) rfl (nI_add i5 1) (by decide) rfl (fun ls hl => ?_)
                                                refine lv_goto (tgt := 204) hx hb dX10_ways_298 (by decide) ?_
                                                exact ih_114 (i5 + 1) g6 (va_up u5 i5 true) Mx Hx locsx ls (by omega) (by omega) (way_5y hg5 (by assumption) (fun t ht => by rw [hg6 t ht, show j6 = sz i5 by omega])) (way_uy hu5 (by assumption)) hI hm_141 hm_142 hm_143 hm_144 (fun j q0 q1 q2 q3 => hF_146 j q0 q1 q2 q3) (lv_sub hl [1, 2, 3, 4, 5, 6, 0] rfl)
                                              · -- 256: nI (6 * i5 + j6) lt
                                                have c_155 : 6 * i5 + j6 < (6 * i5) + (sz i5) := by have h := mt (nI_leI (a := (6 * i5) + (sz i5)) (b := 6 * i5 + j6) (by omega) (by omega)).mpr c_155; omega
                                                obtain ⟨hrj, hej⟩ := hmj j6 (by omega)
                                                obtain ⟨hr6, he4⟩ := hje j6 (by omega)
                                                refine lv_aload_n hx hb dX10_ways_259 rfl (lv_at hl 0 rfl) ?_
                                                refine h_get (C := RX10) (T := TX10) (N := 38) hx hb hts i_RX10 hown hI hm_141 rfl 10 (by decide) f_42 rfl rfl dX10_ways_260 ?_
                                                refine lv_iload hx hb dX10_ways_263 (lv_at hl 7 rfl) ?_
                                                refine h_iald (i := 6 * i5 + j6) hx hb hI hm_153 (by omega) (by decide) dX10_ways_265 ?_
                                                refine n_eq (show _ = nI (en i5 j6) from congrArg nI hej) ?_
                                                refine lv_bipush (v := nI 40) hx hb dX10_ways_266 (by decide) ?_
                                                refine lv_icmp_ge (tgt := 289) hx hb dX10_ways_268 (by decide) (fun c_156 => ?_) (fun c_156 => ?_)
                                                · -- 268: nI (en i5 j6) ge
                                                  have c_156 : 40 ≤ en i5 j6 := (nI_leI (a := 40) (b := en i5 j6) (by omega) (by omega)).mp (c_156)
                                                  refine lv_iinc (v := nI (6 * i5 + j6 + 1)) (lv' := [(7, .int (nI (6 * i5 + j6 + 1))), (0, .ref (ad 60)), (1, .int (nI a)), (2, .int (nI b)), (3, .int ks), (4, .int d), (5, .int (nI k)), (6, .int (nI i5))]) hx hb dX10_ways_289 hl (k := 7) rfl (nI_add (6 * i5 + j6) 1) (by decide) rfl (fun ls hl => ?_)
                                                  refine lv_goto (tgt := 241) hx hb dX10_ways_292 (by decide) ?_
                                                  exact ih_147 (j6 + 1) g6 Mx Hx locsx ls (by omega) (by omega) (aS_1 hg6 (by assumption) (by omega)) hI hm_141 hm_142 hm_143 hm_144 (fun j q0 q1 q2 q3 => hF_146 j q0 q1 q2 q3) (lv_sub hl [1, 2, 3, 4, 5, 6, 7, 0] rfl)
                                                · -- 268: nI (en i5 j6) lt
                                                  have c_156 : en i5 j6 < 40 := by have h := mt (nI_leI (a := 40) (b := en i5 j6) (by omega) (by omega)).mpr c_156; omega
                                                  have hle := hlst (en i5 j6) (by omega)
                                                  refine lv_aload_n hx hb dX10_ways_271 rfl (lv_at hl 0 rfl) ?_
                                                  refine h_get (C := RX10) (T := TX10) (N := 38) hx hb hts i_RX10 hown hI hm_141 rfl 35 (by decide) f_92 rfl rfl dX10_ways_272 ?_
                                                  refine lv_aload_n hx hb dX10_ways_275 rfl (lv_at hl 0 rfl) ?_
                                                  refine h_get (C := RX10) (T := TX10) (N := 38) hx hb hts i_RX10 hown hI hm_141 rfl 12 (by decide) f_45 rfl rfl dX10_ways_276 ?_
                                                  refine lv_aload_n hx hb dX10_ways_279 rfl (lv_at hl 0 rfl) ?_
                                                  refine h_get (C := RX10) (T := TX10) (N := 38) hx hb hts i_RX10 hown hI hm_141 rfl 10 (by decide) f_42 rfl rfl dX10_ways_280 ?_
                                                  refine lv_iload hx hb dX10_ways_283 (lv_at hl 7 rfl) ?_
                                                  refine h_iald (i := 6 * i5 + j6) hx hb hI hm_153 (by omega) (by decide) dX10_ways_285 ?_
                                                  refine n_eq (show _ = nI (en i5 j6) from congrArg nI hej) ?_
                                                  refine h_iald (i := en i5 j6) hx hb hI hm_154 (by omega) (by decide) dX10_ways_286 ?_
                                                  refine lv_iconst (v := nI 1) hx hb dX10_ways_287 (by decide) ?_
                                                  refine h_zast (i := lst (en i5 j6)) (x := nI 1) hx hb hI hm_142 (by omega) (by decide) rfl dX10_ways_288 (fun M_157 H_158 locs_159 eM_160 hI => ?_)
                                                  rw [upd_bF_1] at eM_160
                                                  have hm_161 : M_157 65 = some (aI G 120 (nF mk)) := by rw [eM_160, va_up_ne _ _ (by decide)]; exact hm_148
                                                  have hm_162 : M_157 66 = some (aI G 120 mf) := by rw [eM_160, va_up_ne _ _ (by decide)]; exact hm_149
                                                  have hm_163 : M_157 67 = some (aI G 120 mu) := by rw [eM_160, va_up_ne _ _ (by decide)]; exact hm_150
                                                  have hm_164 : M_157 68 = some (aI G 121 (nF mz)) := by rw [eM_160, va_up_ne _ _ (by decide)]; exact hm_151
                                                  have hm_165 : M_157 69 = some (aI G 726 (nF rr)) := by rw [eM_160, va_up_ne _ _ (by decide)]; exact hm_152
                                                  have hm_166 : M_157 70 = some (aI G 726 (nF ee)) := by rw [eM_160, va_up_ne _ _ (by decide)]; exact hm_153
                                                  have hm_167 : M_157 71 = some (aI G 40 (nF lst)) := by rw [eM_160, va_up_ne _ _ (by decide)]; exact hm_154
                                                  have hm_168 : M_157 60 = some (cModel ad 0 n on ao vr sn tp pt zs bg fa) := by rw [eM_160, va_up_ne _ _ (by decide)]; exact hm_141
                                                  have hm_169 : M_157 85 = some (aZ G 40 (bF (va_up g6 (lst (en i5 j6)) true))) := by rw [eM_160]; exact va_up_self _ _ _
                                                  have hm_170 : M_157 86 = some (aZ G 120 (bF (va_up u5 i5 true))) := by rw [eM_160, va_up_ne _ _ (by decide)]; exact hm_143
                                                  have hm_171 : M_157 87 = some (aZ G 120 (bF w4)) := by rw [eM_160, va_up_ne _ _ (by decide)]; exact hm_144
                                                  have hF_172 : ∀ j : Nat, j ≠ 60 → j ≠ 85 → j ≠ 86 → j ≠ 87 → M_157 j = M j := fun j q0 q1 q2 q3 => by rw [eM_160, va_up_ne _ _ q1]; exact hF_146 j q0 q1 q2 q3
                                                  refine lv_iinc (v := nI (6 * i5 + j6 + 1)) (lv' := [(7, .int (nI (6 * i5 + j6 + 1))), (0, .ref (ad 60)), (1, .int (nI a)), (2, .int (nI b)), (3, .int ks), (4, .int d), (5, .int (nI k)), (6, .int (nI i5))]) hx hb dX10_ways_289 hl (k := 7) rfl (nI_add (6 * i5 + j6) 1) (by decide) rfl (fun ls hl => ?_)
                                                  refine lv_goto (tgt := 241) hx hb dX10_ways_292 (by decide) ?_
                                                  exact ih_147 (j6 + 1) (va_up g6 (lst (en i5 j6)) true) M_157 H_158 locs_159 ls (by omega) (by omega) (aS_2 hg6 (by assumption)) hI hm_168 hm_169 hm_170 hm_171 (fun j q0 q1 q2 q3 => hF_172 j q0 q1 q2 q3) (lv_sub hl [1, 2, 3, 4, 5, 6, 7, 0] rfl)
                                          exact lp241_140 ((sz i5 - 0) + 1) 0 g5 M_124 H_125 locs_126 ls (Nat.lt_succ_self _) (by omega) (fun t ht => ⟨Or.inl, fun h => h.elim id (fun ⟨l, h1, _⟩ => absurd h1 (Nat.not_lt_zero l))⟩) hI hm_135 hm_136 hm_137 hm_138 (fun j q0 q1 q2 q3 => hF_139 j q0 q1 q2 q3) (lv_sub hl [1, 2, 3, 4, 5, 6, 7, 0] rfl)
                                        · -- 220: bI (w4 i5) eq
                                          have c_123 : w4 i5 = false := bI_f (c_123)
                                          refine lv_goto (tgt := 295) hx hb dX10_ways_223 (by decide) ?_
                                          refine lv_iinc (v := nI (i5 + 1)) (lv' := [(6, .int (nI (i5 + 1))), (0, .ref (ad 60)), (1, .int (nI a)), (2, .int (nI b)), (3, .int ks), (4, .int d), (5, .int (nI k))]) hx hb dX10_ways_295 hl (k := 6) rfl (nI_add i5 1) (by decide) rfl (fun ls hl => ?_)
                                          refine lv_goto (tgt := 204) hx hb dX10_ways_298 (by decide) ?_
                                          exact ih_114 (i5 + 1) g5 u5 Mx Hx locsx ls (by omega) (by omega) (way_5n hg5 (by assumption)) (way_un hu5 (by assumption)) hI hm_108 hm_109 hm_110 hm_111 (fun j q0 q1 q2 q3 => hF_113 j q0 q1 q2 q3) (lv_sub hl [1, 2, 3, 4, 5, 6, 0] rfl)
                                  exact lp204_107 ((n - 0) + 1) 0 gr uu Mx Hx locsx ls (Nat.lt_succ_self _) (by omega) (fun t ht => ⟨Or.inl, fun h => h.elim id (fun ⟨l, h1, _⟩ => absurd h1 (Nat.not_lt_zero l))⟩) (fun l => by rw [decide_eq_false (Nat.not_lt_zero l), Bool.false_and, Bool.or_false]) hI hm_92 hm_93 hm_94 hm_95 (fun j q0 q1 q2 q3 => hF_97 j q0 q1 q2 q3) (lv_sub hl [1, 2, 3, 4, 5, 6, 0] rfl)
                                · -- 161: nI i4 lt
                                  have c_106 : i4 < n := by have h := mt (nI_leI (a := n) (b := i4) (by omega) (by omega)).mpr c_106; omega
                                  obtain ⟨hk6, hs6, hje⟩ := hw.2 i4 (by omega)
                                  refine lv_aload_n hx hb dX10_ways_164 rfl (lv_at hl 0 rfl) ?_
                                  refine h_get (C := RX10) (T := TX10) (N := 38) hx hb hts i_RX10 hown hI hm_92 rfl 37 (by decide) f_98 rfl rfl dX10_ways_165 ?_
                                  refine lv_iload hx hb dX10_ways_168 (lv_at hl 6 rfl) ?_
                                  refine lv_aload_n hx hb dX10_ways_170 rfl (lv_at hl 0 rfl) ?_
                                  refine h_get (C := RX10) (T := TX10) (N := 38) hx hb hts i_RX10 hown hI hm_92 rfl 36 (by decide) f_95 rfl rfl dX10_ways_171 ?_
                                  refine lv_iload hx hb dX10_ways_174 (lv_at hl 6 rfl) ?_
                                  refine h_zald (i := i4) hx hb hI hm_94 (by omega) (by decide) dX10_ways_176 ?_
                                  refine lv_if_ne (tgt := 193) hx hb dX10_ways_177 (by decide) (fun c_173 => ?_) (fun c_173 => ?_)
                                  · -- 177: bI (uu i4) ne
                                    have c_173 : uu i4 = true := bI_t (c_173)
                                    refine lv_iconst (v := nI 0) hx hb dX10_ways_193 (by decide) ?_
                                    refine h_zast (i := i4) (x := nI 0) hx hb hI hm_95 (by omega) (by decide) rfl dX10_ways_194 (fun M_174 H_175 locs_176 eM_177 hI => ?_)
                                    rw [upd_bF_0] at eM_177
                                    have hm_178 : M_174 65 = some (aI G 120 (nF mk)) := by rw [eM_177, va_up_ne _ _ (by decide)]; exact hm_99
                                    have hm_179 : M_174 66 = some (aI G 120 mf) := by rw [eM_177, va_up_ne _ _ (by decide)]; exact hm_100
                                    have hm_180 : M_174 67 = some (aI G 120 mu) := by rw [eM_177, va_up_ne _ _ (by decide)]; exact hm_101
                                    have hm_181 : M_174 68 = some (aI G 121 (nF mz)) := by rw [eM_177, va_up_ne _ _ (by decide)]; exact hm_102
                                    have hm_182 : M_174 69 = some (aI G 726 (nF rr)) := by rw [eM_177, va_up_ne _ _ (by decide)]; exact hm_103
                                    have hm_183 : M_174 70 = some (aI G 726 (nF ee)) := by rw [eM_177, va_up_ne _ _ (by decide)]; exact hm_104
                                    have hm_184 : M_174 71 = some (aI G 40 (nF lst)) := by rw [eM_177, va_up_ne _ _ (by decide)]; exact hm_105
                                    have hm_185 : M_174 60 = some (cModel ad 0 n on ao vr sn tp pt zs bg fa) := by rw [eM_177, va_up_ne _ _ (by decide)]; exact hm_92
                                    have hm_186 : M_174 85 = some (aZ G 40 (bF gr)) := by rw [eM_177, va_up_ne _ _ (by decide)]; exact hm_93
                                    have hm_187 : M_174 86 = some (aZ G 120 (bF uu)) := by rw [eM_177, va_up_ne _ _ (by decide)]; exact hm_94
                                    have hm_188 : M_174 87 = some (aZ G 120 (bF (va_up w4 i4 false))) := by rw [eM_177]; exact va_up_self _ _ _
                                    have hF_189 : ∀ j : Nat, j ≠ 60 → j ≠ 85 → j ≠ 86 → j ≠ 87 → M_174 j = M j := fun j q0 q1 q2 q3 => by rw [eM_177, va_up_ne _ _ q3]; exact hF_97 j q0 q1 q2 q3
                                    refine lv_iinc (v := nI (i4 + 1)) (lv' := [(6, .int (nI (i4 + 1))), (0, .ref (ad 60)), (1, .int (nI a)), (2, .int (nI b)), (3, .int ks), (4, .int d), (5, .int (nI k))]) hx hb dX10_ways_195 hl (k := 6) rfl (nI_add i4 1) (by decide) rfl (fun ls hl => ?_)
                                    refine lv_goto (tgt := 155) hx hb dX10_ways_198 (by decide) ?_
                                    exact ih_98 (i4 + 1) (va_up w4 i4 false) M_174 H_175 locs_176 ls (by omega) (by omega) (lt_s2 (fun j hj => (va_up_ne _ _ (by omega)).trans (hw4 j hj)) (by rw [va_up_self, show uu i4 = true by assumption]; try rfl)) hI hm_185 hm_186 hm_187 hm_188 (fun j q0 q1 q2 q3 => hF_189 j q0 q1 q2 q3) (lv_sub hl [1, 2, 3, 4, 5, 6, 0] rfl)
                                  · -- 177: bI (uu i4) eq
                                    have c_173 : uu i4 = false := bI_f (c_173)
                                    refine lv_aload_n hx hb dX10_ways_180 rfl (lv_at hl 0 rfl) ?_
                                    refine lv_iload hx hb dX10_ways_181 (lv_at hl 6 rfl) ?_
                                    refine k_Ri (va_runV (As := [.int (nI i4)]) (rest := [.int (nI i4), .ref (ad 87)]) ⟨hx, hb, hml, hown, hts⟩ (c_X10_touches l G z ad Mx (th := 0) (ln := n) (on := on) (ao := ao) (vr := vr) (sn := sn) (tp := tp) (pt := pt) (zs := zs) (bg := bg) (fa := fa) (n := n) (kd := kd) (fm := fm) (to := to) (sz := sz) (rl := rl) (en := en) (mk := mk) (mf := mf) (mu := mu) (mz := mz) (rr := rr) (ee := ee) (lst := lst) (re := gr) (q := i4) hm_92 hm_102 hm_104 hm_105 hm_93 hw hmr (by omega) hlst) (cwV 1 hts (gV (lwg_of t_1358 rfl) (lwg_of t_1360 rfl) (lwg_of ts_45 rfl) (lwg_of t_13 rfl) (lwg_of t_1361 rfl)) rfl rfl rfl (by decide +kernel) ⟨Nat.le_of_ble_eq_true rfl, Nat.le_of_ble_eq_true rfl⟩) (hI.preV hm_92 rfl) rfl rfl hl.1 rfl (lv_room (Nat.le_of_ble_eq_true rfl)) dX10_ways_183 ⟨Nat.le_of_ble_eq_true rfl, Nat.le_of_ble_eq_true rfl⟩) (fun _ h => h) (fun r_190 hp_191 => ?_)
                                    rw [hp_191]
                                    refine lv_if_eq (tgt := 193) hx hb dX10_ways_186 (by decide) (fun c_192 => ?_) (fun c_192 => ?_)
                                    · -- 186: bI (tch gr (en i4) lst (sz i4)) eq
                                      have c_192 : tch gr (en i4) lst (sz i4) = false := bI_f (c_192)
                                      refine lv_iconst (v := nI 0) hx hb dX10_ways_193 (by decide) ?_
                                      refine h_zast (i := i4) (x := nI 0) hx hb hI hm_95 (by omega) (by decide) rfl dX10_ways_194 (fun M_193 H_194 locs_195 eM_196 hI => ?_)
                                      rw [upd_bF_0] at eM_196
                                      have hm_197 : M_193 65 = some (aI G 120 (nF mk)) := by rw [eM_196, va_up_ne _ _ (by decide)]; exact hm_99
                                      have hm_198 : M_193 66 = some (aI G 120 mf) := by rw [eM_196, va_up_ne _ _ (by decide)]; exact hm_100
                                      have hm_199 : M_193 67 = some (aI G 120 mu) := by rw [eM_196, va_up_ne _ _ (by decide)]; exact hm_101
                                      have hm_200 : M_193 68 = some (aI G 121 (nF mz)) := by rw [eM_196, va_up_ne _ _ (by decide)]; exact hm_102
                                      have hm_201 : M_193 69 = some (aI G 726 (nF rr)) := by rw [eM_196, va_up_ne _ _ (by decide)]; exact hm_103
                                      have hm_202 : M_193 70 = some (aI G 726 (nF ee)) := by rw [eM_196, va_up_ne _ _ (by decide)]; exact hm_104
                                      have hm_203 : M_193 71 = some (aI G 40 (nF lst)) := by rw [eM_196, va_up_ne _ _ (by decide)]; exact hm_105
                                      have hm_204 : M_193 60 = some (cModel ad 0 n on ao vr sn tp pt zs bg fa) := by rw [eM_196, va_up_ne _ _ (by decide)]; exact hm_92
                                      have hm_205 : M_193 85 = some (aZ G 40 (bF gr)) := by rw [eM_196, va_up_ne _ _ (by decide)]; exact hm_93
                                      have hm_206 : M_193 86 = some (aZ G 120 (bF uu)) := by rw [eM_196, va_up_ne _ _ (by decide)]; exact hm_94
                                      have hm_207 : M_193 87 = some (aZ G 120 (bF (va_up w4 i4 false))) := by rw [eM_196]; exact va_up_self _ _ _
                                      have hF_208 : ∀ j : Nat, j ≠ 60 → j ≠ 85 → j ≠ 86 → j ≠ 87 → M_193 j = M j := fun j q0 q1 q2 q3 => by rw [eM_196, va_up_ne _ _ q3]; exact hF_97 j q0 q1 q2 q3
                                      refine lv_iinc (v := nI (i4 + 1)) (lv' := [(6, .int (nI (i4 + 1))), (0, .ref (ad 60)), (1, .int (nI a)), (2, .int (nI b)), (3, .int ks), (4, .int d), (5, .int (nI k))]) hx hb dX10_ways_195 hl (k := 6) rfl (nI_add i4 1) (by decide) rfl (fun ls hl => ?_)
                                      refine lv_goto (tgt := 155) hx hb dX10_ways_198 (by decide) ?_
                                      exact ih_98 (i4 + 1) (va_up w4 i4 false) M_193 H_194 locs_195 ls (by omega) (by omega) (lt_s2 (fun j hj => (va_up_ne _ _ (by omega)).trans (hw4 j hj)) (by rw [va_up_self, show tch gr (en i4) lst (sz i4) = false by assumption, Bool.and_false]; try rfl)) hI hm_204 hm_205 hm_206 hm_207 (fun j q0 q1 q2 q3 => hF_208 j q0 q1 q2 q3) (lv_sub hl [1, 2, 3, 4, 5, 6, 0] rfl)
                                    · -- 186: bI (tch gr (en i4) lst (sz i4)) ne
                                      have c_192 : tch gr (en i4) lst (sz i4) = true := bI_t (c_192)
                                      refine lv_iconst (v := nI 1) hx hb dX10_ways_189 (by decide) ?_
                                      refine lv_goto (tgt := 194) hx hb dX10_ways_190 (by decide) ?_
                                      refine h_zast (i := i4) (x := nI 1) hx hb hI hm_95 (by omega) (by decide) rfl dX10_ways_194 (fun M_209 H_210 locs_211 eM_212 hI => ?_)
                                      rw [upd_bF_1] at eM_212
                                      have hm_213 : M_209 65 = some (aI G 120 (nF mk)) := by rw [eM_212, va_up_ne _ _ (by decide)]; exact hm_99
                                      have hm_214 : M_209 66 = some (aI G 120 mf) := by rw [eM_212, va_up_ne _ _ (by decide)]; exact hm_100
                                      have hm_215 : M_209 67 = some (aI G 120 mu) := by rw [eM_212, va_up_ne _ _ (by decide)]; exact hm_101
                                      have hm_216 : M_209 68 = some (aI G 121 (nF mz)) := by rw [eM_212, va_up_ne _ _ (by decide)]; exact hm_102
                                      have hm_217 : M_209 69 = some (aI G 726 (nF rr)) := by rw [eM_212, va_up_ne _ _ (by decide)]; exact hm_103
                                      have hm_218 : M_209 70 = some (aI G 726 (nF ee)) := by rw [eM_212, va_up_ne _ _ (by decide)]; exact hm_104
                                      have hm_219 : M_209 71 = some (aI G 40 (nF lst)) := by rw [eM_212, va_up_ne _ _ (by decide)]; exact hm_105
                                      have hm_220 : M_209 60 = some (cModel ad 0 n on ao vr sn tp pt zs bg fa) := by rw [eM_212, va_up_ne _ _ (by decide)]; exact hm_92
                                      have hm_221 : M_209 85 = some (aZ G 40 (bF gr)) := by rw [eM_212, va_up_ne _ _ (by decide)]; exact hm_93
                                      have hm_222 : M_209 86 = some (aZ G 120 (bF uu)) := by rw [eM_212, va_up_ne _ _ (by decide)]; exact hm_94
                                      have hm_223 : M_209 87 = some (aZ G 120 (bF (va_up w4 i4 true))) := by rw [eM_212]; exact va_up_self _ _ _
                                      have hF_224 : ∀ j : Nat, j ≠ 60 → j ≠ 85 → j ≠ 86 → j ≠ 87 → M_209 j = M j := fun j q0 q1 q2 q3 => by rw [eM_212, va_up_ne _ _ q3]; exact hF_97 j q0 q1 q2 q3
                                      refine lv_iinc (v := nI (i4 + 1)) (lv' := [(6, .int (nI (i4 + 1))), (0, .ref (ad 60)), (1, .int (nI a)), (2, .int (nI b)), (3, .int ks), (4, .int d), (5, .int (nI k))]) hx hb dX10_ways_195 hl (k := 6) rfl (nI_add i4 1) (by decide) rfl (fun ls hl => ?_)
                                      refine lv_goto (tgt := 155) hx hb dX10_ways_198 (by decide) ?_
                                      exact ih_98 (i4 + 1) (va_up w4 i4 true) M_209 H_210 locs_211 ls (by omega) (by omega) (lt_s2 (fun j hj => (va_up_ne _ _ (by omega)).trans (hw4 j hj)) (by rw [va_up_self, show uu i4 = false by assumption, show tch gr (en i4) lst (sz i4) = true by assumption]; try rfl)) hI hm_220 hm_221 hm_222 hm_223 (fun j q0 q1 q2 q3 => hF_224 j q0 q1 q2 q3) (lv_sub hl [1, 2, 3, 4, 5, 6, 0] rfl)
                            exact lp155_91 ((n - 0) + 1) 0 ww Mx Hx locsx ls (Nat.lt_succ_self _) (by omega) (fun j hj => absurd hj (Nat.not_lt_zero j)) hI hm_75 hm_76 hm_77 hm_78 (fun j q0 q1 q2 q3 => hF_80 j q0 q1 q2 q3) (lv_sub hl [1, 2, 3, 4, 5, 6, 0] rfl)
                          · -- 146: bI (gr (lst b)) ne
                            have c_90 : gr (lst b) = true := bI_t (c_90)
                            refine lv_iload hx hb dX10_ways_149 (lv_at hl 5 rfl) ?_
                            subst hQ
                            exact e_Ni hx hb hr rfl hlocks hI ⟨gr, uu, ww, hm_75, hm_76, hm_77, hm_78, (fun j q0 q1 q2 q3 => hF_80 j q0 q1 q2 q3), ⟨some k, rfl, (fun i9 h9 => by cases h9; exact ⟨(hgr _ hlb).mp (by assumption), hno⟩), fun h9 => by cases h9⟩⟩ dX10_ways_151
                    exact lp128_74 ((121 - 0) + 1) 0 (va_up g (lst a) true) u ne M_58 H_59 locs_60 ls (Nat.lt_succ_self _) (by omega) (way_g0 (fun t ht => hg t (by omega))) (way_u0 (fun l hl => hu l (by omega))) (fun j hj => absurd hj (Nat.not_lt_zero j)) hI hm_70 hm_71 hm_72 hm_69 (fun j q0 q1 q2 q3 => hF_73 j q0 q1 q2) (lv_sub hl [1, 2, 3, 4, 5, 0] rfl)
                  · -- 67: nI i2 lt
                    have c_57 : i2 < n := by have h := mt (nI_leI (a := n) (b := i2) (by omega) (by omega)).mpr c_57; omega
                    obtain ⟨hmk, hmf, hmt, hmz, hmj⟩ := hmr i2 (by omega)
                    obtain ⟨hk6, hs6, hje⟩ := hw.2 i2 (by omega)
                    refine lv_aload_n hx hb dX10_ways_70 rfl (lv_at hl 0 rfl) ?_
                    refine h_get (C := RX10) (T := TX10) (N := 38) hx hb hts i_RX10 hown hI hm_43 rfl 36 (by decide) f_95 rfl rfl dX10_ways_71 ?_
                    refine lv_iload hx hb dX10_ways_74 (lv_at hl 5 rfl) ?_
                    refine lv_iload_n hx hb dX10_ways_76 rfl (lv_at hl 3 rfl) ?_
                    refine lv_aload_n hx hb dX10_ways_77 rfl (lv_at hl 0 rfl) ?_
                    refine h_get (C := RX10) (T := TX10) (N := 38) hx hb hts i_RX10 hown hI hm_43 rfl 5 (by decide) f_27 rfl rfl dX10_ways_78 ?_
                    refine lv_iload hx hb dX10_ways_81 (lv_at hl 5 rfl) ?_
                    refine h_iald (i := i2) hx hb hI hm_49 (by omega) (by decide) dX10_ways_83 ?_
                    refine n_eq (show _ = nI (kd i2) from congrArg nI hmk) ?_
                    refine lv_ishr hx hb dX10_ways_84 ?_
                    refine lv_iconst (v := nI 1) hx hb dX10_ways_85 (by decide) ?_
                    refine lv_iand hx hb dX10_ways_86 ?_
                    refine n_eq (show _ = bI (kbit ks (kd i2)) from kbit_sh ks (by omega)) ?_
                    refine lv_if_eq (tgt := 101) hx hb dX10_ways_87 (by decide) (fun c_225 => ?_) (fun c_225 => ?_)
                    · -- 87: bI (kbit ks (kd i2)) eq
                      have c_225 : kbit ks (kd i2) = false := bI_f (c_225)
                      refine lv_iconst (v := nI 1) hx hb dX10_ways_101 (by decide) ?_
                      refine lv_goto (tgt := 106) hx hb dX10_ways_102 (by decide) ?_
                      refine h_zast (i := i2) (x := nI 1) hx hb hI hm_45 (by omega) (by decide) rfl dX10_ways_106 (fun M_226 H_227 locs_228 eM_229 hI => ?_)
                      rw [upd_bF_1] at eM_229
                      have hm_230 : M_226 65 = some (aI G 120 (nF mk)) := by rw [eM_229, va_up_ne _ _ (by decide)]; exact hm_49
                      have hm_231 : M_226 66 = some (aI G 120 mf) := by rw [eM_229, va_up_ne _ _ (by decide)]; exact hm_50
                      have hm_232 : M_226 67 = some (aI G 120 mu) := by rw [eM_229, va_up_ne _ _ (by decide)]; exact hm_51
                      have hm_233 : M_226 68 = some (aI G 121 (nF mz)) := by rw [eM_229, va_up_ne _ _ (by decide)]; exact hm_52
                      have hm_234 : M_226 69 = some (aI G 726 (nF rr)) := by rw [eM_229, va_up_ne _ _ (by decide)]; exact hm_53
                      have hm_235 : M_226 70 = some (aI G 726 (nF ee)) := by rw [eM_229, va_up_ne _ _ (by decide)]; exact hm_54
                      have hm_236 : M_226 71 = some (aI G 40 (nF lst)) := by rw [eM_229, va_up_ne _ _ (by decide)]; exact hm_55
                      have hm_237 : M_226 87 = some (aZ G 120 (bF ne)) := by rw [eM_229, va_up_ne _ _ (by decide)]; exact hm_56
                      have hm_238 : M_226 60 = some (cModel ad 0 n on ao vr sn tp pt zs bg fa) := by rw [eM_229, va_up_ne _ _ (by decide)]; exact hm_43
                      have hm_239 : M_226 85 = some (aZ G 40 (bF g)) := by rw [eM_229, va_up_ne _ _ (by decide)]; exact hm_44
                      have hm_240 : M_226 86 = some (aZ G 120 (bF (va_up u i2 true))) := by rw [eM_229]; exact va_up_self _ _ _
                      have hF_241 : ∀ j : Nat, j ≠ 60 → j ≠ 85 → j ≠ 86 → M_226 j = M j := fun j q0 q1 q2 => by rw [eM_229, va_up_ne _ _ q2]; exact hF_47 j q0 q1 q2
                      refine lv_iinc (v := nI (i2 + 1)) (lv' := [(5, .int (nI (i2 + 1))), (0, .ref (ad 60)), (1, .int (nI a)), (2, .int (nI b)), (3, .int ks), (4, .int d)]) hx hb dX10_ways_107 hl (k := 5) rfl (nI_add i2 1) (by decide) rfl (fun ls hl => ?_)
                      refine lv_goto (tgt := 61) hx hb dX10_ways_110 (by decide) ?_
                      exact ih_48 (i2 + 1) (va_up u i2 true) M_226 H_227 locs_228 ls (by omega) (by omega) (lt_s2 (fun j hj => (va_up_ne _ _ (by omega)).trans (hu j hj)) (by rw [va_up_self, show kbit ks (kd i2) = false by assumption]; try rfl)) hI hm_238 hm_239 hm_240 (fun j q0 q1 q2 => hF_241 j q0 q1 q2) (lv_sub hl [1, 2, 3, 4, 5, 0] rfl)
                    · -- 87: bI (kbit ks (kd i2)) ne
                      have c_225 : kbit ks (kd i2) = true := bI_t (c_225)
                      refine lv_aload_n hx hb dX10_ways_90 rfl (lv_at hl 0 rfl) ?_
                      refine lv_iload hx hb dX10_ways_91 (lv_at hl 5 rfl) ?_
                      refine lv_iload hx hb dX10_ways_93 (lv_at hl 4 rfl) ?_
                      refine k_Ri (va_runV (As := [.int (nI i2), .int d]) (rest := [.int (nI i2), .ref (ad 86)]) ⟨hx, hb, hml, hown, hts⟩ (c_X10_isOn l G z ad Mx (th := 0) (ln := n) (on := on) (ao := ao) (vr := vr) (sn := sn) (tp := tp) (pt := pt) (zs := zs) (bg := bg) (fa := fa) (n := n) (kd := kd) (fm := fm) (to := to) (sz := sz) (rl := rl) (en := en) (mk := mk) (mf := mf) (mu := mu) (mz := mz) (rr := rr) (ee := ee) (q := i2) (d := d) hm_43 hm_50 hm_51 hw hmr (by omega)) (cwV 2 hts (gV (lwg_of t_1176 rfl) (lwg_of t_1178 rfl) (lwg_of ts_27 rfl) (lwg_of t_13 rfl) (lwg_of t_1179 rfl)) rfl rfl rfl (by decide +kernel) ⟨Nat.le_of_ble_eq_true rfl, Nat.le_of_ble_eq_true rfl⟩) (hI.preV hm_43 rfl) rfl rfl hl.1 rfl (lv_room (Nat.le_of_ble_eq_true rfl)) dX10_ways_95 ⟨Nat.le_of_ble_eq_true rfl, Nat.le_of_ble_eq_true rfl⟩) (fun _ h => h) (fun r_242 hp_243 => ?_)
                      rw [hp_243]
                      refine lv_if_ne (tgt := 105) hx hb dX10_ways_98 (by decide) (fun c_244 => ?_) (fun c_244 => ?_)
                      · -- 98: bI (decide (fm i2 ≤ d ∧ d ≤ to i2)) ne
                        have c_244 : decide (fm i2 ≤ d ∧ d ≤ to i2) = true := bI_t (c_244)
                        refine lv_iconst (v := nI 0) hx hb dX10_ways_105 (by decide) ?_
                        refine h_zast (i := i2) (x := nI 0) hx hb hI hm_45 (by omega) (by decide) rfl dX10_ways_106 (fun M_245 H_246 locs_247 eM_248 hI => ?_)
                        rw [upd_bF_0] at eM_248
                        have hm_249 : M_245 65 = some (aI G 120 (nF mk)) := by rw [eM_248, va_up_ne _ _ (by decide)]; exact hm_49
                        have hm_250 : M_245 66 = some (aI G 120 mf) := by rw [eM_248, va_up_ne _ _ (by decide)]; exact hm_50
                        have hm_251 : M_245 67 = some (aI G 120 mu) := by rw [eM_248, va_up_ne _ _ (by decide)]; exact hm_51
                        have hm_252 : M_245 68 = some (aI G 121 (nF mz)) := by rw [eM_248, va_up_ne _ _ (by decide)]; exact hm_52
                        have hm_253 : M_245 69 = some (aI G 726 (nF rr)) := by rw [eM_248, va_up_ne _ _ (by decide)]; exact hm_53
                        have hm_254 : M_245 70 = some (aI G 726 (nF ee)) := by rw [eM_248, va_up_ne _ _ (by decide)]; exact hm_54
                        have hm_255 : M_245 71 = some (aI G 40 (nF lst)) := by rw [eM_248, va_up_ne _ _ (by decide)]; exact hm_55
                        have hm_256 : M_245 87 = some (aZ G 120 (bF ne)) := by rw [eM_248, va_up_ne _ _ (by decide)]; exact hm_56
                        have hm_257 : M_245 60 = some (cModel ad 0 n on ao vr sn tp pt zs bg fa) := by rw [eM_248, va_up_ne _ _ (by decide)]; exact hm_43
                        have hm_258 : M_245 85 = some (aZ G 40 (bF g)) := by rw [eM_248, va_up_ne _ _ (by decide)]; exact hm_44
                        have hm_259 : M_245 86 = some (aZ G 120 (bF (va_up u i2 false))) := by rw [eM_248]; exact va_up_self _ _ _
                        have hF_260 : ∀ j : Nat, j ≠ 60 → j ≠ 85 → j ≠ 86 → M_245 j = M j := fun j q0 q1 q2 => by rw [eM_248, va_up_ne _ _ q2]; exact hF_47 j q0 q1 q2
                        refine lv_iinc (v := nI (i2 + 1)) (lv' := [(5, .int (nI (i2 + 1))), (0, .ref (ad 60)), (1, .int (nI a)), (2, .int (nI b)), (3, .int ks), (4, .int d)]) hx hb dX10_ways_107 hl (k := 5) rfl (nI_add i2 1) (by decide) rfl (fun ls hl => ?_)
                        refine lv_goto (tgt := 61) hx hb dX10_ways_110 (by decide) ?_
                        exact ih_48 (i2 + 1) (va_up u i2 false) M_245 H_246 locs_247 ls (by omega) (by omega) (lt_s2 (fun j hj => (va_up_ne _ _ (by omega)).trans (hu j hj)) (by rw [va_up_self, show kbit ks (kd i2) = true by assumption, show decide (fm i2 ≤ d ∧ d ≤ to i2) = true by assumption]; try rfl)) hI hm_257 hm_258 hm_259 (fun j q0 q1 q2 => hF_260 j q0 q1 q2) (lv_sub hl [1, 2, 3, 4, 5, 0] rfl)
                      · -- 98: bI (decide (fm i2 ≤ d ∧ d ≤ to i2)) eq
                        have c_244 : decide (fm i2 ≤ d ∧ d ≤ to i2) = false := bI_f (c_244)
                        refine lv_iconst (v := nI 1) hx hb dX10_ways_101 (by decide) ?_
                        refine lv_goto (tgt := 106) hx hb dX10_ways_102 (by decide) ?_
                        refine h_zast (i := i2) (x := nI 1) hx hb hI hm_45 (by omega) (by decide) rfl dX10_ways_106 (fun M_261 H_262 locs_263 eM_264 hI => ?_)
                        rw [upd_bF_1] at eM_264
                        have hm_265 : M_261 65 = some (aI G 120 (nF mk)) := by rw [eM_264, va_up_ne _ _ (by decide)]; exact hm_49
                        have hm_266 : M_261 66 = some (aI G 120 mf) := by rw [eM_264, va_up_ne _ _ (by decide)]; exact hm_50
                        have hm_267 : M_261 67 = some (aI G 120 mu) := by rw [eM_264, va_up_ne _ _ (by decide)]; exact hm_51
                        have hm_268 : M_261 68 = some (aI G 121 (nF mz)) := by rw [eM_264, va_up_ne _ _ (by decide)]; exact hm_52
                        have hm_269 : M_261 69 = some (aI G 726 (nF rr)) := by rw [eM_264, va_up_ne _ _ (by decide)]; exact hm_53
                        have hm_270 : M_261 70 = some (aI G 726 (nF ee)) := by rw [eM_264, va_up_ne _ _ (by decide)]; exact hm_54
                        have hm_271 : M_261 71 = some (aI G 40 (nF lst)) := by rw [eM_264, va_up_ne _ _ (by decide)]; exact hm_55
                        have hm_272 : M_261 87 = some (aZ G 120 (bF ne)) := by rw [eM_264, va_up_ne _ _ (by decide)]; exact hm_56
                        have hm_273 : M_261 60 = some (cModel ad 0 n on ao vr sn tp pt zs bg fa) := by rw [eM_264, va_up_ne _ _ (by decide)]; exact hm_43
                        have hm_274 : M_261 85 = some (aZ G 40 (bF g)) := by rw [eM_264, va_up_ne _ _ (by decide)]; exact hm_44
                        have hm_275 : M_261 86 = some (aZ G 120 (bF (va_up u i2 true))) := by rw [eM_264]; exact va_up_self _ _ _
                        have hF_276 : ∀ j : Nat, j ≠ 60 → j ≠ 85 → j ≠ 86 → M_261 j = M j := fun j q0 q1 q2 => by rw [eM_264, va_up_ne _ _ q2]; exact hF_47 j q0 q1 q2
                        refine lv_iinc (v := nI (i2 + 1)) (lv' := [(5, .int (nI (i2 + 1))), (0, .ref (ad 60)), (1, .int (nI a)), (2, .int (nI b)), (3, .int ks), (4, .int d)]) hx hb dX10_ways_107 hl (k := 5) rfl (nI_add i2 1) (by decide) rfl (fun ls hl => ?_)
                        refine lv_goto (tgt := 61) hx hb dX10_ways_110 (by decide) ?_
                        exact ih_48 (i2 + 1) (va_up u i2 true) M_261 H_262 locs_263 ls (by omega) (by omega) (lt_s2 (fun j hj => (va_up_ne _ _ (by omega)).trans (hu j hj)) (by rw [va_up_self, show decide (fm i2 ≤ d ∧ d ≤ to i2) = false by assumption, Bool.and_false]; try rfl)) hI hm_273 hm_274 hm_275 (fun j q0 q1 q2 => hF_276 j q0 q1 q2) (lv_sub hl [1, 2, 3, 4, 5, 0] rfl)
              exact lp61_42 ((n - 0) + 1) 0 us Mx Hx locsx ls (Nat.lt_succ_self _) (by omega) (fun j hj => absurd hj (Nat.not_lt_zero j)) hI hm_27 hm_28 hm_39 (fun j q0 q1 q2 => hF_30 j q0 q1) (lv_sub hl [1, 2, 3, 4, 5, 0] rfl)
            · -- 41: nI i lt
              have c_41 : i < 40 := by have h := mt (nI_leI (a := 40) (b := i) (by omega) (by omega)).mpr c_41; omega
              refine lv_aload_n hx hb dX10_ways_44 rfl (lv_at hl 0 rfl) ?_
              refine h_get (C := RX10) (T := TX10) (N := 38) hx hb hts i_RX10 hown hI hm_27 rfl 35 (by decide) f_92 rfl rfl dX10_ways_45 ?_
              refine lv_iload hx hb dX10_ways_48 (lv_at hl 5 rfl) ?_
              refine lv_iconst (v := nI 0) hx hb dX10_ways_50 (by decide) ?_
              refine h_zast (i := i) (x := nI 0) hx hb hI hm_28 (by omega) (by decide) rfl dX10_ways_51 (fun M_277 H_278 locs_279 eM_280 hI => ?_)
              rw [upd_bF_0] at eM_280
              have hm_281 : M_277 65 = some (aI G 120 (nF mk)) := by rw [eM_280, va_up_ne _ _ (by decide)]; exact hm_32
              have hm_282 : M_277 66 = some (aI G 120 mf) := by rw [eM_280, va_up_ne _ _ (by decide)]; exact hm_33
              have hm_283 : M_277 67 = some (aI G 120 mu) := by rw [eM_280, va_up_ne _ _ (by decide)]; exact hm_34
              have hm_284 : M_277 68 = some (aI G 121 (nF mz)) := by rw [eM_280, va_up_ne _ _ (by decide)]; exact hm_35
              have hm_285 : M_277 69 = some (aI G 726 (nF rr)) := by rw [eM_280, va_up_ne _ _ (by decide)]; exact hm_36
              have hm_286 : M_277 70 = some (aI G 726 (nF ee)) := by rw [eM_280, va_up_ne _ _ (by decide)]; exact hm_37
              have hm_287 : M_277 71 = some (aI G 40 (nF lst)) := by rw [eM_280, va_up_ne _ _ (by decide)]; exact hm_38
              have hm_288 : M_277 86 = some (aZ G 120 (bF us)) := by rw [eM_280, va_up_ne _ _ (by decide)]; exact hm_39
              have hm_289 : M_277 87 = some (aZ G 120 (bF ne)) := by rw [eM_280, va_up_ne _ _ (by decide)]; exact hm_40
              have hm_290 : M_277 60 = some (cModel ad 0 n on ao vr sn tp pt zs bg fa) := by rw [eM_280, va_up_ne _ _ (by decide)]; exact hm_27
              have hm_291 : M_277 85 = some (aZ G 40 (bF (va_up g i false))) := by rw [eM_280]; exact va_up_self _ _ _
              have hF_292 : ∀ j : Nat, j ≠ 60 → j ≠ 85 → M_277 j = M j := fun j q0 q1 => by rw [eM_280, va_up_ne _ _ q1]; exact hF_30 j q0 q1
              refine lv_iinc (v := nI (i + 1)) (lv' := [(5, .int (nI (i + 1))), (0, .ref (ad 60)), (1, .int (nI a)), (2, .int (nI b)), (3, .int ks), (4, .int d)]) hx hb dX10_ways_52 hl (k := 5) rfl (nI_add i 1) (by decide) rfl (fun ls hl => ?_)
              refine lv_goto (tgt := 37) hx hb dX10_ways_55 (by decide) ?_
              exact ih_31 (i + 1) (va_up g i false) M_277 H_278 locs_279 ls (by omega) (by omega) (lt_s2 (fun j hj => (va_up_ne _ _ (by omega)).trans (hg j hj)) (va_up_self _ _ _)) hI hm_290 hm_291 (fun j q0 q1 => hF_292 j q0 q1) (lv_sub hl [1, 2, 3, 4, 5, 0] rfl)
        exact lp37_26 ((40 - 0) + 1) 0 re M_1 H_2 locs_3 ls (Nat.lt_succ_self _) (by omega) (fun j hj => absurd hj (Nat.not_lt_zero j)) hI hm_5 hm_13 (fun j q0 q1 => hF_16 j q0) (lv_sub hl [1, 2, 3, 4, 5, 0] rfl)
      · -- 29: nI 0 ne
        exact absurd (by decide) c_25
    · -- 17: nI 0 ne
      exact absurd (by decide) c_22

/-- X10_ways -/
abbrev rm_c_X10_ways_a : Room := { frames := 2, cells := 0, slots := 0, locals := 42 }
set_option maxHeartbeats 4000000 in
set_option maxRecDepth 100000 in
theorem c_X10_ways_a (l : Launch) (G : GG) (z : Nat) (ad : Nat → Nat) (M : Mem) {th : Nat} {ln : Nat} {on : Nat} {ao : Nat} {vr : Nat} {sn : Nat} {tp : Nat} {pt : Nat} {zs : Nat} {bg : Nat} {fa : Int32} {x0 : Int32} {x1 : Int32} {x2 : Int32} {x3 : Int32} (h60 : M 60 = some (cModel ad th ln on ao vr sn tp pt zs bg fa)) (hbad : x0 < 0 ∨ ¬ x0 < nI 40) : Met l yX10_ways wsX10_ways rm_c_X10_ways_a (Pr G z ad M [.ref (ad 60), .int x0, .int x1, .int x2, .int x3]) (Ni G z ad (fun (r : Int32) (M' : Mem) => r = nI 0 ∧ M' 60 = some (cModel ad 1 ln on ao vr sn tp pt zs bg fa) ∧ (∀ j : Nat, j ≠ 60 → M' j = M j))) 0 0 (fr z) := by
  refine Met.ofW (cc := cX10_ways) (maxL := 8) (ret := (some .int)) (by decide) rfl ?_
  intro p e s m args below meth c s₁ B hml hv
  obtain ⟨rfl, hv⟩ := hv
  have hI := Iv.entry hv
  have hx := B.exec
  have hb := B.bytes
  have hr := B.returns
  have hts := atoms_spec (ws := wsX10_ways) B.pre
  have hown : s.vm.findClass RX10 = some m.cls := findClass_of_methodNamed B.named
  have hlocks := B.notSynchronized
  have f_3 := hts _ (List.mem_cons_of_mem _ (lwg_of t_1013 rfl))
  have i_RX10 : ∀ w ∈ u_ws RX10 TX10 38, w ∈ wsX10_ways := fun w h => List.mem_cons_of_mem _ (iu_X10 w h)
  have hl := lv_entry ([.ref (ad 60), .int x0, .int x1, .int x2, .int x3]) (n := 8) (Nat.le_of_ble_eq_true rfl)
  rw [lg_entry_eq]
  generalize (lg_sl ([.ref (ad 60), .int x0, .int x1, .int x2, .int x3]) ++ List.replicate (8 - (lg_sl ([.ref (ad 60), .int x0, .int x1, .int x2, .int x3])).length) Slot.unset).toArray = ls at hl ⊢
  have hl : lv_has ls 8 [(0, .ref (ad 60)), (1, .int x0), (2, .int x1), (3, .int x2), (4, .int x3)] := hl
  refine lv_aload_n hx hb dX10_ways_0 rfl (lv_at hl 0 rfl) ?_
  refine lv_iconst (v := nI 0) hx hb dX10_ways_1 (by decide) ?_
  refine h_put (C := RX10) (T := TX10) (N := 38) hx hb hts i_RX10 tyX10 tyX10_ok nmX10 hown hI h60 rfl 0 (by decide) f_3 rfl rfl rfl rfl (Nat.le_of_ble_eq_true rfl) dX10_ways_2 (fun M_1 H_2 locs_3 eM_4 hI => ?_)
  have hm_5 : M_1 60 = some (cModel ad 0 ln on ao vr sn tp pt zs bg fa) := by rw [eM_4]; exact va_up_self _ _ _
  have hF_6 : ∀ j : Nat, j ≠ 60 → M_1 j = M j := fun j q0 => by rw [eM_4, va_up_ne _ _ q0]
  refine lv_aload_n hx hb dX10_ways_5 rfl (lv_at hl 0 rfl) ?_
  refine lv_iload_n hx hb dX10_ways_6 rfl (lv_at hl 1 rfl) ?_
  refine k_Ri (va_runS (As := [.int x0]) (rest := [.ref (ad 60)]) ⟨hx, hb, hml, hown, hts⟩ (c_X10_noThing_1 l G z ad M_1 (x := x0) hbad) (va_cwS 1 hts (gS (lwg_of t_1161 rfl) (lwg_of t_1162 rfl) (lwg_of t_13 rfl) (lwg_of t_1163 rfl)) rfl rfl rfl (by decide +kernel) ⟨Nat.le_of_ble_eq_true rfl, Nat.le_of_ble_eq_true rfl⟩) hI.preS rfl rfl hl.1 rfl (lv_room (Nat.le_of_ble_eq_true rfl)) dX10_ways_7 ⟨Nat.le_of_ble_eq_true rfl, Nat.le_of_ble_eq_true rfl⟩) (fun _ h => h) (fun r_7 hp_8 => ?_)
  rw [hp_8]
  refine lv_if_ne (tgt := 20) hx hb dX10_ways_10 (by decide) (fun c_9 => ?_) (fun c_9 => ?_)
  · -- 10: nI 1 ne
    refine lv_iconst (v := nI 1) hx hb dX10_ways_20 (by decide) ?_
    refine lv_goto (tgt := 25) hx hb dX10_ways_21 (by decide) ?_
    refine lv_iconst (v := nI 1) hx hb dX10_ways_25 (by decide) ?_
    refine k_Ni (va_runV (As := [.int (nI 1), .int (nI 1)]) (rest := []) ⟨hx, hb, hml, hown, hts⟩ (c_X10_throwsIf_1 l G z ad M_1 (th := 0) (ln := ln) (on := on) (ao := ao) (vr := vr) (sn := sn) (tp := tp) (pt := pt) (zs := zs) (bg := bg) (fa := fa) (c0 := 1) hm_5) (cwV 2 hts (gV (lwg_of t_1141 rfl) (lwg_of t_1143 rfl) (lwg_of ts_23 rfl) (lwg_of t_13 rfl) (lwg_of t_1144 rfl)) rfl rfl rfl (by decide +kernel) ⟨Nat.le_of_ble_eq_true rfl, Nat.le_of_ble_eq_true rfl⟩) (hI.preV hm_5 rfl) rfl rfl hl.1 rfl (lv_room (Nat.le_of_ble_eq_true rfl)) dX10_ways_26 ⟨Nat.le_of_ble_eq_true rfl, Nat.le_of_ble_eq_true rfl⟩) hI (fun r_10 M_12 H_13 locs_14 hp_11 hI => ?_)
    obtain ⟨hr_15, hm_16, hF_17⟩ := hp_11
    have hF_18 : ∀ j : Nat, j ≠ 60 → M_12 j = M j := fun j q0 => (hF_17 j q0).trans (hF_6 j q0)
    rw [hr_15]
    refine lv_if_eq (tgt := 34) hx hb dX10_ways_29 (by decide) (fun c_19 => ?_) (fun c_19 => ?_)
    · -- 29: nI 1 eq
      exact absurd c_19 (by decide)
    · -- 29: nI 1 ne
      refine lv_iconst (v := nI 0) hx hb dX10_ways_32 (by decide) ?_
      exact e_Ni hx hb hr rfl hlocks hI ⟨rfl, hm_16, (fun j q0 => hF_18 j q0)⟩ dX10_ways_33
  · -- 10: nI 1 eq
    exact absurd c_9 (by decide)

/-- X10_ways -/
abbrev rm_c_X10_ways_b : Room := { frames := 2, cells := 0, slots := 0, locals := 42 }
set_option maxHeartbeats 4000000 in
set_option maxRecDepth 100000 in
theorem c_X10_ways_b (l : Launch) (G : GG) (z : Nat) (ad : Nat → Nat) (M : Mem) {th : Nat} {ln : Nat} {on : Nat} {ao : Nat} {vr : Nat} {sn : Nat} {tp : Nat} {pt : Nat} {zs : Nat} {bg : Nat} {fa : Int32} {a : Nat} {x1 : Int32} {x2 : Int32} {x3 : Int32} (h60 : M 60 = some (cModel ad th ln on ao vr sn tp pt zs bg fa)) (ha : a < 40) (hbad : x1 < 0 ∨ ¬ x1 < nI 40) : Met l yX10_ways wsX10_ways rm_c_X10_ways_b (Pr G z ad M [.ref (ad 60), .int (nI a), .int x1, .int x2, .int x3]) (Ni G z ad (fun (r : Int32) (M' : Mem) => r = nI 0 ∧ M' 60 = some (cModel ad 1 ln on ao vr sn tp pt zs bg fa) ∧ (∀ j : Nat, j ≠ 60 → M' j = M j))) 0 0 (fr z) := by
  refine Met.ofW (cc := cX10_ways) (maxL := 8) (ret := (some .int)) (by decide) rfl ?_
  intro p e s m args below meth c s₁ B hml hv
  obtain ⟨rfl, hv⟩ := hv
  have hI := Iv.entry hv
  have hx := B.exec
  have hb := B.bytes
  have hr := B.returns
  have hts := atoms_spec (ws := wsX10_ways) B.pre
  have hown : s.vm.findClass RX10 = some m.cls := findClass_of_methodNamed B.named
  have hlocks := B.notSynchronized
  have f_3 := hts _ (List.mem_cons_of_mem _ (lwg_of t_1013 rfl))
  have i_RX10 : ∀ w ∈ u_ws RX10 TX10 38, w ∈ wsX10_ways := fun w h => List.mem_cons_of_mem _ (iu_X10 w h)
  have hl := lv_entry ([.ref (ad 60), .int (nI a), .int x1, .int x2, .int x3]) (n := 8) (Nat.le_of_ble_eq_true rfl)
  rw [lg_entry_eq]
  generalize (lg_sl ([.ref (ad 60), .int (nI a), .int x1, .int x2, .int x3]) ++ List.replicate (8 - (lg_sl ([.ref (ad 60), .int (nI a), .int x1, .int x2, .int x3])).length) Slot.unset).toArray = ls at hl ⊢
  have hl : lv_has ls 8 [(0, .ref (ad 60)), (1, .int (nI a)), (2, .int x1), (3, .int x2), (4, .int x3)] := hl
  refine lv_aload_n hx hb dX10_ways_0 rfl (lv_at hl 0 rfl) ?_
  refine lv_iconst (v := nI 0) hx hb dX10_ways_1 (by decide) ?_
  refine h_put (C := RX10) (T := TX10) (N := 38) hx hb hts i_RX10 tyX10 tyX10_ok nmX10 hown hI h60 rfl 0 (by decide) f_3 rfl rfl rfl rfl (Nat.le_of_ble_eq_true rfl) dX10_ways_2 (fun M_1 H_2 locs_3 eM_4 hI => ?_)
  have hm_5 : M_1 60 = some (cModel ad 0 ln on ao vr sn tp pt zs bg fa) := by rw [eM_4]; exact va_up_self _ _ _
  have hF_6 : ∀ j : Nat, j ≠ 60 → M_1 j = M j := fun j q0 => by rw [eM_4, va_up_ne _ _ q0]
  refine lv_aload_n hx hb dX10_ways_5 rfl (lv_at hl 0 rfl) ?_
  refine lv_iload_n hx hb dX10_ways_6 rfl (lv_at hl 1 rfl) ?_
  refine k_Ri (va_runS (As := [.int (nI a)]) (rest := [.ref (ad 60)]) ⟨hx, hb, hml, hown, hts⟩ (c_X10_noThing_0 l G z ad M_1 (t := a) (by omega)) (va_cwS 1 hts (gS (lwg_of t_1161 rfl) (lwg_of t_1162 rfl) (lwg_of t_13 rfl) (lwg_of t_1163 rfl)) rfl rfl rfl (by decide +kernel) ⟨Nat.le_of_ble_eq_true rfl, Nat.le_of_ble_eq_true rfl⟩) hI.preS rfl rfl hl.1 rfl (lv_room (Nat.le_of_ble_eq_true rfl)) dX10_ways_7 ⟨Nat.le_of_ble_eq_true rfl, Nat.le_of_ble_eq_true rfl⟩) (fun _ h => h) (fun r_7 hp_8 => ?_)
  rw [hp_8]
  refine lv_if_ne (tgt := 20) hx hb dX10_ways_10 (by decide) (fun c_9 => ?_) (fun c_9 => ?_)
  · -- 10: nI 0 ne
    exact absurd (by decide) c_9
  · -- 10: nI 0 eq
    refine lv_iload_n hx hb dX10_ways_13 rfl (lv_at hl 2 rfl) ?_
    refine k_Ri (va_runS (As := [.int x1]) (rest := [.ref (ad 60)]) ⟨hx, hb, hml, hown, hts⟩ (c_X10_noThing_1 l G z ad M_1 (x := x1) hbad) (va_cwS 1 hts (gS (lwg_of t_1161 rfl) (lwg_of t_1162 rfl) (lwg_of t_13 rfl) (lwg_of t_1163 rfl)) rfl rfl rfl (by decide +kernel) ⟨Nat.le_of_ble_eq_true rfl, Nat.le_of_ble_eq_true rfl⟩) hI.preS rfl rfl hl.1 rfl (lv_room (Nat.le_of_ble_eq_true rfl)) dX10_ways_14 ⟨Nat.le_of_ble_eq_true rfl, Nat.le_of_ble_eq_true rfl⟩) (fun _ h => h) (fun r_10 hp_11 => ?_)
    rw [hp_11]
    refine lv_if_eq (tgt := 24) hx hb dX10_ways_17 (by decide) (fun c_12 => ?_) (fun c_12 => ?_)
    · -- 17: nI 1 eq
      exact absurd c_12 (by decide)
    · -- 17: nI 1 ne
      refine lv_iconst (v := nI 1) hx hb dX10_ways_20 (by decide) ?_
      refine lv_goto (tgt := 25) hx hb dX10_ways_21 (by decide) ?_
      refine lv_iconst (v := nI 1) hx hb dX10_ways_25 (by decide) ?_
      refine k_Ni (va_runV (As := [.int (nI 1), .int (nI 1)]) (rest := []) ⟨hx, hb, hml, hown, hts⟩ (c_X10_throwsIf_1 l G z ad M_1 (th := 0) (ln := ln) (on := on) (ao := ao) (vr := vr) (sn := sn) (tp := tp) (pt := pt) (zs := zs) (bg := bg) (fa := fa) (c0 := 1) hm_5) (cwV 2 hts (gV (lwg_of t_1141 rfl) (lwg_of t_1143 rfl) (lwg_of ts_23 rfl) (lwg_of t_13 rfl) (lwg_of t_1144 rfl)) rfl rfl rfl (by decide +kernel) ⟨Nat.le_of_ble_eq_true rfl, Nat.le_of_ble_eq_true rfl⟩) (hI.preV hm_5 rfl) rfl rfl hl.1 rfl (lv_room (Nat.le_of_ble_eq_true rfl)) dX10_ways_26 ⟨Nat.le_of_ble_eq_true rfl, Nat.le_of_ble_eq_true rfl⟩) hI (fun r_13 M_15 H_16 locs_17 hp_14 hI => ?_)
      obtain ⟨hr_18, hm_19, hF_20⟩ := hp_14
      have hF_21 : ∀ j : Nat, j ≠ 60 → M_15 j = M j := fun j q0 => (hF_20 j q0).trans (hF_6 j q0)
      rw [hr_18]
      refine lv_if_eq (tgt := 34) hx hb dX10_ways_29 (by decide) (fun c_22 => ?_) (fun c_22 => ?_)
      · -- 29: nI 1 eq
        exact absurd c_22 (by decide)
      · -- 29: nI 1 ne
        refine lv_iconst (v := nI 0) hx hb dX10_ways_32 (by decide) ?_
        exact e_Ni hx hb hr rfl hlocks hI ⟨rfl, hm_19, (fun j q0 => hF_21 j q0)⟩ dX10_ways_33
