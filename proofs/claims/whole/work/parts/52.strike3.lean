theorem z0I : (0 : Int32).toInt = 0 := by decide
theorem m1I : (-1 : Int32).toInt = -1 := by decide
theorem dOf_pos {d x : Int32} (h : 0 ≤ d) : 0 ≤ dOf d x := by
  simp only [dOf]
  split <;> simp only [Int32.le_iff_toInt_le, Int32.lt_iff_toInt_lt, z0I] at * <;> omega
theorem dOf_nlt {d x : Int32} (h : 0 ≤ d) : ¬ dOf d x < 0 := fun h2 => by
  have := dOf_pos (x := x) h
  simp only [Int32.le_iff_toInt_le, Int32.lt_iff_toInt_lt, z0I] at *
  omega
theorem dOf_nm {d x : Int32} (h : 0 ≤ d) : dOf d x ≠ -1 := fun h2 => by
  have := dOf_pos (x := x) h
  rw [h2] at this
  exact absurd this (by decide)
theorem dOf_self {d x : Int32} (h : x ≤ d) : dOf d x = d := by
  rw [dOf, if_neg]
  simp only [Int32.le_iff_toInt_le, Int32.lt_iff_toInt_lt] at *
  omega
theorem i_ext {a b : Int32} (h : a.toInt = b.toInt) : a = b := Int32.toInt_inj.mp h
theorem dOf_mx {d x y : Int32} (h : x ≤ y) : (if dOf d x < y then y else dOf d x) = dOf d y := by
  simp only [dOf]
  split <;> split <;> apply i_ext <;> (try split) <;> simp only [Int32.le_iff_toInt_le, Int32.lt_iff_toInt_lt] at * <;> (try split at *) <;> omega
theorem dOf_m1 {d x : Int32} (h : 0 ≤ d) : (if -1 < dOf d x then dOf d x else -1) = dOf d x := by
  have := dOf_pos (x := x) h
  rw [if_pos]
  simp only [Int32.le_iff_toInt_le, Int32.lt_iff_toInt_lt, z0I, m1I] at *
  omega
theorem dOf_le {d x y t : Int32} (h : x ≤ y) (h1 : y ≤ t) (h2 : d ≤ t) : dOf d x ≤ t := by
  simp only [dOf]
  split <;> simp only [Int32.le_iff_toInt_le, Int32.lt_iff_toInt_lt] at * <;> omega
theorem dOf_dle {d x t : Int32} (h : dOf d x ≤ t) : d ≤ t := by
  simp only [dOf] at h
  split at h <;> simp only [Int32.le_iff_toInt_le, Int32.lt_iff_toInt_lt] at * <;> omega
section SM
variable {kd : Nat → Nat} {ho : Nat → Bool} {fm to : Nat → Int32} {sz : Nat → Nat} {rl en : Nat → Nat → Nat} {q : Nat} {d : Int32} {n i k v v3 : Nat} {s1 s2 s3 : Nat → Int32}
/-- one of the struck lines below k is one that i hangs on and ends with -/
def XK (fm to : Nat → Int32) (sz : Nat → Nat) (en : Nat → Nat → Nat) (q : Nat) (d : Int32) (i k : Nat) : Prop := ∃ u, q ≤ u ∧ u < k ∧ stk fm to sz en q d u = true ∧ hgs sz en i u = true ∧ fm i ≤ to i ∧ d ≤ to i
def XS (fm to : Nat → Int32) (sz : Nat → Nat) (en : Nat → Nat → Nat) (q : Nat) (d : Int32) (i k v v3 : Nat) (s3 : Nat → Int32) : Prop := (s3 i = -1 ∧ v3 = v ∧ ¬ XK fm to sz en q d i k) ∨ (s3 i = dOf d (fm i) ∧ v3 = v + 1 ∧ XK fm to sz en q d i k)
def XH (kd : Nat → Nat) (ho : Nat → Bool) (fm to : Nat → Int32) (sz : Nat → Nat) (en : Nat → Nat → Nat) (q : Nat) (d : Int32) (i k : Nat) : Prop := ∀ u, q ≤ u → u < k → stk fm to sz en q d u = true → hgs sz en i u = true → fm i ≤ to i → d ≤ to i → ho (kd u) = false
theorem xk_no (h : ¬ (stk fm to sz en q d k = true ∧ hgs sz en i k = true ∧ fm i ≤ to i ∧ d ≤ to i)) : XK fm to sz en q d i (k + 1) ↔ XK fm to sz en q d i k := by
  constructor
  · rintro ⟨u, h1, h2, h3⟩
    by_cases e : u = k
    · subst e; exact absurd h3 h
    · exact ⟨u, h1, by omega, h3⟩
  · rintro ⟨u, h1, h2, h3⟩; exact ⟨u, h1, by omega, h3⟩
theorem xs_no (hs : XS fm to sz en q d i k v v3 s3) (h : ¬ (stk fm to sz en q d k = true ∧ hgs sz en i k = true ∧ fm i ≤ to i ∧ d ≤ to i)) : XS fm to sz en q d i (k + 1) v v3 s3 := by
  rw [XS, xk_no h]; exact hs
theorem xh_no (hs : XH kd ho fm to sz en q d i k) (h : ¬ (stk fm to sz en q d k = true ∧ hgs sz en i k = true ∧ fm i ≤ to i ∧ d ≤ to i)) : XH kd ho fm to sz en q d i (k + 1) := fun u h1 h2 h3 h4 h5 h6 => by
  by_cases e : u = k
  · subst e; exact absurd ⟨h3, h4, h5, h6⟩ h
  · exact hs u h1 (by omega) h3 h4 h5 h6
theorem xh_yes (hs : XH kd ho fm to sz en q d i k) (h : ho (kd k) = false) : XH kd ho fm to sz en q d i (k + 1) := fun u h1 h2 h3 h4 h5 h6 => by
  by_cases e : u = k
  · subst e; exact h
  · exact hs u h1 (by omega) h3 h4 h5 h6
theorem xs_y1 (hs : XS fm to sz en q d i k v v3 s3) (hd : 0 ≤ d) (hf : s3 i = -1) (hx : XK fm to sz en q d i (k + 1)) : XS fm to sz en q d i (k + 1) v (v3 + 1) (upd s3 i (dOf d (fm i))) := by
  rcases hs with h | h
  · exact Or.inr ⟨up_self _ _ _, by rw [h.2.1], hx⟩
  · exact absurd (h.1.symm.trans hf) (dOf_nm hd)
theorem xs_y2 (hs : XS fm to sz en q d i k v v3 s3) (hf : ¬ s3 i = -1) (hx : XK fm to sz en q d i (k + 1)) : XS fm to sz en q d i (k + 1) v (v3 + 0) (upd s3 i (dOf d (fm i))) := by
  rcases hs with h | h
  · exact absurd h.1 hf
  · exact Or.inr ⟨up_self _ _ _, h.2.1, hx⟩
theorem xs_at (hs : XS fm to sz en q d i k v v3 s3) (hf : ¬ s3 i = -1) : s3 i = dOf d (fm i) := by
  rcases hs with h | h
  · exact absurd h.1 hf
  · exact h.1
theorem hgs_iff {u : Nat} : hgs sz en i u = true ↔ ∃ e, e < sz i ∧ olE (en i) e = some u := by
  simp only [hgs, hasL, List.any_eq_true, List.mem_range, decide_eq_true_eq]
theorem xk_stk (hq : q < i) (he : ∀ e, e < sz i → en i e < 40 + i ∧ en i e < 1000) : XK fm to sz en q d i i ↔ stk fm to sz en q d i = true := by
  constructor
  · rintro ⟨u, h1, h2, h3, h4, h5, h6⟩
    obtain ⟨e, a, b⟩ := hgs_iff.mp h4
    rw [stk_ln he hq (decide_eq_true ⟨h5, h6⟩)]
    exact lnk_iff.mpr ⟨e, a, u, b, pS_t h1 h3⟩
  · intro h
    cases hc : decide (fm i ≤ to i ∧ d ≤ to i) with
    | false => rw [stk_no he (by omega) hc] at h; cases h
    | true =>
      rw [stk_ln he hq hc] at h
      obtain ⟨e, a, u, b, c⟩ := lnk_iff.mp h
      have c' : q ≤ u ∧ stk fm to sz en q d u = true := by simpa [pS] using c
      have h1 := olE_some (he e a).2 b
      have h2 := he e a
      exact ⟨u, c'.1, by omega, c'.2, hgs_iff.mpr ⟨e, a, b⟩, of_decide_eq_true hc⟩
theorem pQ_q (he : ∀ e, e < sz q → en q e < 40 + q ∧ en q e < 1000) : pQ fm to sz en q d q = true := by rw [pQ, stk_q he, decide_eq_true (Nat.le_refl q)]; rfl
theorem pQ_lo {l : Nat} (h : l < q) : pQ fm to sz en q d l = false := by rw [pQ, decide_eq_false (by omega), Bool.false_and]
theorem pQ_hi {l : Nat} (h : q ≤ l) : pQ fm to sz en q d l = stk fm to sz en q d l := by rw [pQ, decide_eq_true h, Bool.true_and]
def SI (n : Nat) (fm to : Nat → Int32) (sz : Nat → Nat) (en : Nat → Nat → Nat) (q : Nat) (d : Int32) (i : Nat) (s2 : Nat → Int32) : Prop := ∀ l, l < n → s2 l = if l < i ∧ pQ fm to sz en q d l = true then dOf d (fm l) else -1
theorem si_0 (h : ∀ l, l < i → s1 l = if l = q then d else -1) (hi : n ≤ i) (hd : fm q ≤ d) (he : ∀ e, e < sz q → en q e < 40 + q ∧ en q e < 1000) : SI n fm to sz en q d (q + 1) s1 := fun l hl => by
  rw [h l (by omega)]
  by_cases e : l = q
  · subst e; rw [if_pos rfl, if_pos ⟨by omega, pQ_q he⟩, dOf_self hd]
  · rw [if_neg e, if_neg]
    rintro ⟨h1, h2⟩
    rw [pQ_lo (by omega)] at h2
    cases h2
theorem si_next (h : SI n fm to sz en q d i s2) (hn : ∀ l, l < n → l ≠ i → s3 l = s2 l) (hx : XS fm to sz en q d i i v v3 s3) (hq : q < i) (he : ∀ e, e < sz i → en i e < 40 + i ∧ en i e < 1000) : SI n fm to sz en q d (i + 1) s3 := fun l hl => by
  by_cases e : l = i
  · subst e
    rcases hx with hx | hx
    · rw [hx.1, if_neg]
      rintro ⟨h1, h2⟩
      rw [pQ_hi (by omega)] at h2
      exact hx.2.2 ((xk_stk hq he).mpr h2)
    · rw [hx.1, if_pos ⟨by omega, by rw [pQ_hi (by omega)]; exact (xk_stk hq he).mp hx.2.2⟩]
  · rw [hn l hl e, h l hl]
    by_cases h1 : l < i ∧ pQ fm to sz en q d l = true
    · rw [if_pos h1, if_pos ⟨by omega, h1.2⟩]
    · rw [if_neg h1, if_neg (fun h2 => h1 ⟨by omega, h2.2⟩)]
theorem cv_0 (he : ∀ e, e < sz q → en q e < 40 + q ∧ en q e < 1000) : 1 = cntB (pQ fm to sz en q d) (q + 1) := by
  rw [cntB_t (pQ_q he), cntB_0 (fun l hl => pQ_lo hl)]
theorem cv_next (h : v = cntB (pQ fm to sz en q d) i) (hx : XS fm to sz en q d i i v v3 s3) (hq : q < i) (he : ∀ e, e < sz i → en i e < 40 + i ∧ en i e < 1000) : v3 = cntB (pQ fm to sz en q d) (i + 1) := by
  rcases hx with hx | hx
  · rw [cntB_f (by
      rw [pQ_hi (by omega)]
      cases h9 : stk fm to sz en q d i with
      | false => rfl
      | true => exact absurd ((xk_stk hq he).mpr h9) hx.2.2), hx.2.1, h]
  · rw [cntB_t (by rw [pQ_hi (by omega)]; exact (xk_stk hq he).mp hx.2.2), hx.2.1, h]
theorem nh_next (h : ∀ l, l < i → ¬ hld kd ho fm to sz en q d l) (hh : XH kd ho fm to sz en q d i i) (he : ∀ e, e < sz i → en i e < 40 + i ∧ en i e < 1000) : ∀ l, l < i + 1 → ¬ hld kd ho fm to sz en q d l := lt_s2 h (fun ⟨_, b, e, c, u, f, g, k1, k2⟩ => by
  have h1 := olE_some (he e c).2 f
  have h2 := he e c
  have h3 := of_decide_eq_true b
  rw [hh u g (by omega) k1 (hgs_iff.mpr ⟨e, c, f⟩) h3.1 h3.2] at k2
  cases k2)
theorem hld_y (hq : q < i) (h1 : stk fm to sz en q d k = true) (hk : q ≤ k) (h2 : hgs sz en i k = true) (h3 : fm i ≤ to i) (h4 : d ≤ to i) (h5 : ho (kd k) = true) : hld kd ho fm to sz en q d i := by
  obtain ⟨e, a, b⟩ := hgs_iff.mp h2
  exact ⟨hq, decide_eq_true ⟨h3, h4⟩, e, a, k, b, hk, h1, h5⟩
def TI (n : Nat) (fm to : Nat → Int32) (sz : Nat → Nat) (en : Nat → Nat → Nat) (q : Nat) (d : Int32) (i : Nat) (g : Nat → Int32) : Prop := ∀ l, l < n → g l = toS fm to sz en q d i l
theorem ti_y {g : Nat → Int32} (h : TI n fm to sz en q d i g) (hp : pQ fm to sz en q d i = true) : TI n fm to sz en q d (i + 1) (upd g i (dOf d (fm i) - nI 1)) := fun l hl => by
  by_cases e : l = i
  · subst e; rw [up_self, toS, if_pos ⟨by omega, hp⟩]
  · rw [up_ne _ _ e, h l hl, toS, toS]
    by_cases h1 : l < i ∧ pQ fm to sz en q d l = true
    · rw [if_pos h1, if_pos ⟨by omega, h1.2⟩]
    · rw [if_neg h1, if_neg (fun h2 => h1 ⟨by omega, h2.2⟩)]
theorem ti_n {g : Nat → Int32} (h : TI n fm to sz en q d i g) (hp : ¬ pQ fm to sz en q d i = true) : TI n fm to sz en q d (i + 1) g := fun l hl => by
  rw [h l hl, toS, toS]
  by_cases h1 : l < i ∧ pQ fm to sz en q d l = true
  · rw [if_pos h1, if_pos ⟨by omega, h1.2⟩]
  · rw [if_neg h1, if_neg (fun h2 => h1 ⟨by
      by_cases e : l = i
      · subst e; exact absurd h2.2 hp
      · omega, h2.2⟩)]
end SM

/-- X10_strike -/
abbrev rm_c_X10_strike : Room := { frames := 2, cells := 0, slots := 0, locals := 44 }
set_option maxHeartbeats 4000000 in
set_option maxRecDepth 100000 in
theorem c_X10_strike (l : Launch) (G : GG) (z : Nat) (ad : Nat → Nat) (M : Mem) {th : Nat} {on : Nat} {ao : Nat} {vr : Nat} {sn : Nat} {tp : Nat} {pt : Nat} {zs : Nat} {bg : Nat} {fa : Int32} {n : Nat} {kd : Nat → Nat} {fm : Nat → Int32} {to : Nat → Int32} {sz : Nat → Nat} {rl : Nat → Nat → Nat} {en : Nat → Nat → Nat} {mk : Nat → Nat} {mf : Nat → Int32} {mu : Nat → Int32} {mz : Nat → Nat} {rr : Nat → Nat} {ee : Nat → Nat} {ho : Nat → Bool} {s0 : Nat → Int32} {q : Nat} {d : Int32} (h60 : M 60 = some (cModel ad th n on ao vr sn tp pt zs bg fa)) (h65 : M 65 = some (aI G 120 (nF mk))) (h66 : M 66 = some (aI G 120 mf)) (h67 : M 67 = some (aI G 120 mu)) (h68 : M 68 = some (aI G 121 (nF mz))) (h69 : M 69 = some (aI G 726 (nF rr))) (h70 : M 70 = some (aI G 726 (nF ee))) (h64 : M 64 = some (aZ G 6 (bF ho))) (h74 : M 74 = some (aI G 120 s0)) (hw : LSw n kd sz rl en) (hmr : MRel n kd fm to sz rl en mk mf mu mz rr ee) (hq : q < n) (hfm : ∀ i, i < n → (0 : Int32) ≤ fm i) (hord : ∀ i, i < n → ∀ k, hgs sz en i k = true → fm k ≤ fm i) : Met l yX10_strike wsX10_strike rm_c_X10_strike (Pr G z ad M [.ref (ad 60), .int (nI q), .int d]) (Ni G z ad (fun (r : Int32) (M' : Mem) => ∃ v : Nat, ∃ mu2 : Nat → Int32, ∃ s9 : Nat → Int32, r = nI v ∧ M' 60 = some (cModel ad 0 n on ao vr sn tp pt zs bg fa) ∧ M' 67 = some (aI G 120 mu2) ∧ M' 74 = some (aI G 120 s9) ∧ (∀ j : Nat, j ≠ 60 → j ≠ 67 → j ≠ 74 → M' j = M j) ∧ ((sOK n kd ho fm to sz en q d → v = cntB (pQ fm to sz en q d) n ∧ ∀ l, l < n → mu2 l = toS fm to sz en q d n l) ∧ (¬ sOK n kd ho fm to sz en q d → v = 0 ∧ ∀ l, l < n → mu2 l = to l)))) 0 0 (fr z) := by
  refine Met.ofW (cc := cX10_strike) (maxL := 6) (ret := (some .int)) (by decide) rfl ?_
  intro p e s m args below meth c s₁ B hml hv
  obtain ⟨rfl, hv⟩ := hv
  have hI := Iv.entry hv
  have hx := B.exec
  have hb := B.bytes
  have hr := B.returns
  have hts := atoms_spec (ws := wsX10_strike) B.pre
  have hown : s.vm.findClass RX10 = some m.cls := findClass_of_methodNamed B.named
  have hlocks := B.notSynchronized
  have f_3 := hts _ (List.mem_cons_of_mem _ (lwg_of t_1013 rfl))
  have i_RX10 : ∀ w ∈ u_ws RX10 TX10 38, w ∈ wsX10_strike := fun w h => List.mem_cons_of_mem _ (iu_X10 w h)
  have f_108 := hts _ (List.mem_cons_of_mem _ (lwg_of t_1024 rfl))
  have f_54 := hts _ (List.mem_cons_of_mem _ (lwg_of t_1029 rfl))
  have f_33 := hts _ (List.mem_cons_of_mem _ (lwg_of t_1020 rfl))
  have f_30 := hts _ (List.mem_cons_of_mem _ (lwg_of t_1019 rfl))
  have f_23 := hts _ (List.mem_cons_of_mem _ (lwg_of t_1017 rfl))
  have f_27 := hts _ (List.mem_cons_of_mem _ (lwg_of t_1018 rfl))
  have m_146 := hts _ (List.mem_cons_of_mem _ (lwg_of t_1192 rfl))
  have s_mmax := hts _ (List.mem_cons_of_mem _ (lwg_of t_737 rfl))
  have s_mi := hts _ (List.mem_cons_of_mem _ (lwg_of t_14 rfl))
  have s_mcmax := hts _ (List.mem_cons_of_mem _ (lwg_of t_738 rfl))
  have hl := lv_entry ([.ref (ad 60), .int (nI q), .int d]) (n := 6) (Nat.le_of_ble_eq_true rfl)
  rw [lg_entry_eq]
  generalize (lg_sl ([.ref (ad 60), .int (nI q), .int d]) ++ List.replicate (6 - (lg_sl ([.ref (ad 60), .int (nI q), .int d])).length) Slot.unset).toArray = ls at hl ⊢
  have hl : lv_has ls 6 [(0, .ref (ad 60)), (1, .int (nI q)), (2, .int d)] := hl
  refine w_q (fun Q hQ => ?_)
  have hw1 := hw.1
  obtain ⟨hk6, hs6, hje⟩ := hw.2 q hq
  obtain ⟨hmk, hmf, hmt, hmz, hmj⟩ := hmr q hq
  have heq : ∀ e, e < sz q → en q e < 40 + q ∧ en q e < 1000 := fun e h => ⟨(hje e h).2, by have := (hje e h).2; omega⟩
  refine lv_aload_n hx hb dX10_strike_0 rfl (lv_at hl 0 rfl) ?_
  refine lv_iconst (v := nI 0) hx hb dX10_strike_1 (by decide) ?_
  refine h_put (C := RX10) (T := TX10) (N := 38) hx hb hts i_RX10 tyX10 tyX10_ok nmX10 hown hI h60 rfl 0 (by decide) f_3 rfl rfl rfl rfl (Nat.le_of_ble_eq_true rfl) dX10_strike_2 (fun M_1 H_2 locs_3 eM_4 hI => ?_)
  have hm_5 : M_1 60 = some (cModel ad 0 n on ao vr sn tp pt zs bg fa) := by rw [eM_4]; exact va_up_self _ _ _
  have hm_6 : M_1 65 = some (aI G 120 (nF mk)) := by rw [eM_4, va_up_ne _ _ (by decide)]; exact h65
  have hm_7 : M_1 66 = some (aI G 120 mf) := by rw [eM_4, va_up_ne _ _ (by decide)]; exact h66
  have hm_8 : M_1 67 = some (aI G 120 mu) := by rw [eM_4, va_up_ne _ _ (by decide)]; exact h67
  have hm_9 : M_1 68 = some (aI G 121 (nF mz)) := by rw [eM_4, va_up_ne _ _ (by decide)]; exact h68
  have hm_10 : M_1 69 = some (aI G 726 (nF rr)) := by rw [eM_4, va_up_ne _ _ (by decide)]; exact h69
  have hm_11 : M_1 70 = some (aI G 726 (nF ee)) := by rw [eM_4, va_up_ne _ _ (by decide)]; exact h70
  have hm_12 : M_1 64 = some (aZ G 6 (bF ho)) := by rw [eM_4, va_up_ne _ _ (by decide)]; exact h64
  have hm_13 : M_1 74 = some (aI G 120 s0) := by rw [eM_4, va_up_ne _ _ (by decide)]; exact h74
  have hF_14 : ∀ j : Nat, j ≠ 60 → M_1 j = M j := fun j q0 => by rw [eM_4, va_up_ne _ _ q0]
  refine lv_aload_n hx hb dX10_strike_5 rfl (lv_at hl 0 rfl) ?_
  refine lv_aload_n hx hb dX10_strike_6 rfl (lv_at hl 0 rfl) ?_
  refine lv_iload_n hx hb dX10_strike_7 rfl (lv_at hl 1 rfl) ?_
  refine k_Ri (va_runV (As := [.int (nI q)]) (rest := [.ref (ad 60)]) ⟨hx, hb, hml, hown, hts⟩ (c_X10_noLine_0 l G z ad M_1 (th := 0) (ln := n) (on := on) (ao := ao) (vr := vr) (sn := sn) (tp := tp) (pt := pt) (zs := zs) (bg := bg) (fa := fa) (t := q) hm_5 (by omega) (by omega)) (cwV 1 hts (gV (lwg_of t_1157 rfl) (lwg_of t_1159 rfl) (lwg_of ts_24 rfl) (lwg_of t_13 rfl) (lwg_of t_1160 rfl)) rfl rfl rfl (by decide +kernel) ⟨Nat.le_of_ble_eq_true rfl, Nat.le_of_ble_eq_true rfl⟩) (hI.preV hm_5 rfl) rfl rfl hl.1 rfl (lv_room (Nat.le_of_ble_eq_true rfl)) dX10_strike_8 ⟨Nat.le_of_ble_eq_true rfl, Nat.le_of_ble_eq_true rfl⟩) (fun _ h => h) (fun r_15 hp_16 => ?_)
  rw [hp_16]
  refine lv_iconst (v := nI 1) hx hb dX10_strike_11 (by decide) ?_
  refine k_Ri (va_runV (As := [.int (nI 0), .int (nI 1)]) (rest := []) ⟨hx, hb, hml, hown, hts⟩ (c_X10_throwsIf_0 l G z ad M_1 (th := 0) (ln := n) (on := on) (ao := ao) (vr := vr) (sn := sn) (tp := tp) (pt := pt) (zs := zs) (bg := bg) (fa := fa) (c0 := 1) hm_5) (cwV 2 hts (gV (lwg_of t_1141 rfl) (lwg_of t_1143 rfl) (lwg_of ts_23 rfl) (lwg_of t_13 rfl) (lwg_of t_1144 rfl)) rfl rfl rfl (by decide +kernel) ⟨Nat.le_of_ble_eq_true rfl, Nat.le_of_ble_eq_true rfl⟩) (hI.preV hm_5 rfl) rfl rfl hl.1 rfl (lv_room (Nat.le_of_ble_eq_true rfl)) dX10_strike_12 ⟨Nat.le_of_ble_eq_true rfl, Nat.le_of_ble_eq_true rfl⟩) (fun _ h => h) (fun r_17 hp_18 => ?_)
  rw [hp_18]
  refine lv_if_ne (tgt := 27) hx hb dX10_strike_15 (by decide) (fun c_19 => ?_) (fun c_19 => ?_)
  · -- 15: nI 0 ne
    exact absurd (by decide) c_19
  · -- 15: nI 0 eq
    refine lv_aload_n hx hb dX10_strike_18 rfl (lv_at hl 0 rfl) ?_
    refine lv_iload_n hx hb dX10_strike_19 rfl (lv_at hl 1 rfl) ?_
    refine lv_iload_n hx hb dX10_strike_20 rfl (lv_at hl 2 rfl) ?_
    refine k_Ri (va_runV (As := [.int (nI q), .int d]) (rest := []) ⟨hx, hb, hml, hown, hts⟩ (c_X10_isOn l G z ad M_1 (th := 0) (ln := n) (on := on) (ao := ao) (vr := vr) (sn := sn) (tp := tp) (pt := pt) (zs := zs) (bg := bg) (fa := fa) (n := n) (kd := kd) (fm := fm) (to := to) (sz := sz) (rl := rl) (en := en) (mk := mk) (mf := mf) (mu := mu) (mz := mz) (rr := rr) (ee := ee) (q := q) (d := d) hm_5 hm_7 hm_8 hw hmr (by omega)) (cwV 2 hts (gV (lwg_of t_1176 rfl) (lwg_of t_1178 rfl) (lwg_of ts_27 rfl) (lwg_of t_13 rfl) (lwg_of t_1179 rfl)) rfl rfl rfl (by decide +kernel) ⟨Nat.le_of_ble_eq_true rfl, Nat.le_of_ble_eq_true rfl⟩) (hI.preV hm_5 rfl) rfl rfl hl.1 rfl (lv_room (Nat.le_of_ble_eq_true rfl)) dX10_strike_21 ⟨Nat.le_of_ble_eq_true rfl, Nat.le_of_ble_eq_true rfl⟩) (fun _ h => h) (fun r_20 hp_21 => ?_)
    rw [hp_21]
    refine lv_if_ne (tgt := 29) hx hb dX10_strike_24 (by decide) (fun c_22 => ?_) (fun c_22 => ?_)
    · -- 24: bI (decide (fm q ≤ d ∧ d ≤ to q)) ne
      have c_22 : decide (fm q ≤ d ∧ d ≤ to q) = true := bI_t (c_22)
      have hon := of_decide_eq_true (by assumption : decide (fm q ≤ d ∧ d ≤ to q) = true)
      have hd0 : (0 : Int32) ≤ d := by
        have h9 := hfm q hq
        have h8 := hon.1
        simp only [Int32.le_iff_toInt_le] at *
        omega
      refine lv_iconst (v := nI 0) hx hb dX10_strike_29 (by decide) ?_
      refine lv_istore_n (lv' := [(3, .int (nI 0)), (0, .ref (ad 60)), (1, .int (nI q)), (2, .int d)]) hx hb dX10_strike_30 rfl hl (by decide) rfl (fun ls hl => ?_)
      have lp31_23 : ∀ (fuel : Nat) (j : Nat) (s1 : Nat → Int32) (Mx : Mem) (Hx : Heap) (locsx : List Loc) (ls : Array Slot), (n - j) < fuel → (j ≤ n) → (∀ l, l < j → s1 l = if l = q then d else -1) → Iv G z ad Mx s Hx locsx → Mx 60 = some (cModel ad 0 n on ao vr sn tp pt zs bg fa) → Mx 74 = some (aI G 120 s1) → (∀ j : Nat, j ≠ 60 → j ≠ 74 → Mx j = M j) → lv_has ls 6 [(0, .ref (ad 60)), (1, .int (nI q)), (2, .int d), (3, .int (nI j))] → W p l e (headSpec wsX10_strike rm_c_X10_strike).room s m ([.ref (ad 60), .int (nI q), .int d] : List Value).toArray below meth c Hx locsx 0 0 Q (F0 m 31 ls []) := by
        intro fuel
        induction fuel with
        | zero => intro j s1 Mx Hx locsx ls hfu hj hs1 hI hm_24 hm_25 hF_27 hl; exact absurd hfu (Nat.not_lt_zero _)
        | succ fuel ih_28 =>
          intro j s1 Mx Hx locsx ls hfu hj hs1 hI hm_24 hm_25 hF_27 hl
          have hm_29 : Mx 65 = some (aI G 120 (nF mk)) := by rw [hF_27 65 (by omega) (by omega)]; exact h65
          have hm_30 : Mx 66 = some (aI G 120 mf) := by rw [hF_27 66 (by omega) (by omega)]; exact h66
          have hm_31 : Mx 67 = some (aI G 120 mu) := by rw [hF_27 67 (by omega) (by omega)]; exact h67
          have hm_32 : Mx 68 = some (aI G 121 (nF mz)) := by rw [hF_27 68 (by omega) (by omega)]; exact h68
          have hm_33 : Mx 69 = some (aI G 726 (nF rr)) := by rw [hF_27 69 (by omega) (by omega)]; exact h69
          have hm_34 : Mx 70 = some (aI G 726 (nF ee)) := by rw [hF_27 70 (by omega) (by omega)]; exact h70
          have hm_35 : Mx 64 = some (aZ G 6 (bF ho)) := by rw [hF_27 64 (by omega) (by omega)]; exact h64
          refine lv_iload_n hx hb dX10_strike_31 rfl (lv_at hl 3 rfl) ?_
          refine lv_aload_n hx hb dX10_strike_32 rfl (lv_at hl 0 rfl) ?_
          refine h_get (C := RX10) (T := TX10) (N := 38) hx hb hts i_RX10 hown hI hm_24 rfl 11 (by decide) f_108 rfl rfl dX10_strike_33 ?_
          refine lv_icmp_ge (tgt := 61) hx hb dX10_strike_36 (by decide) (fun c_36 => ?_) (fun c_36 => ?_)
          · -- 36: nI j ge
            have c_36 : n ≤ j := (nI_leI (a := n) (b := j) (by omega) (by omega)).mp (c_36)
            refine lv_iconst (v := nI 1) hx hb dX10_strike_61 (by decide) ?_
            refine lv_istore_n (lv' := [(3, .int (nI 1)), (0, .ref (ad 60)), (1, .int (nI q)), (2, .int d)]) hx hb dX10_strike_62 rfl hl (by decide) rfl (fun ls hl => ?_)
            refine lv_iload_n hx hb dX10_strike_63 rfl (lv_at hl 2 rfl) ?_
            refine lv_iconst (v := nI 1) hx hb dX10_strike_64 (by decide) ?_
            refine lv_iadd hx hb dX10_strike_65 ?_
            refine n_eq (nI_add q 1) ?_
            refine lv_istore (lv' := [(4, .int (nI (q + 1))), (3, .int (nI 1)), (0, .ref (ad 60)), (1, .int (nI q)), (2, .int d)]) hx hb dX10_strike_66 hl (by decide) rfl (fun ls hl => ?_)
            have lp68_37 : ∀ (fuel : Nat) (i : Nat) (v : Nat) (s2 : Nat → Int32) (Mx : Mem) (Hx : Heap) (locsx : List Loc) (ls : Array Slot), (n - i) < fuel → (q < i ∧ i ≤ n) → (SI n fm to sz en q d i s2) → (v = cntB (pQ fm to sz en q d) i) → (∀ l, l < i → ¬ hld kd ho fm to sz en q d l) → Iv G z ad Mx s Hx locsx → Mx 60 = some (cModel ad 0 n on ao vr sn tp pt zs bg fa) → Mx 74 = some (aI G 120 s2) → (∀ j : Nat, j ≠ 60 → j ≠ 74 → Mx j = M j) → lv_has ls 6 [(0, .ref (ad 60)), (1, .int (nI q)), (2, .int d), (3, .int (nI v)), (4, .int (nI i))] → W p l e (headSpec wsX10_strike rm_c_X10_strike).room s m ([.ref (ad 60), .int (nI q), .int d] : List Value).toArray below meth c Hx locsx 0 0 Q (F0 m 68 ls []) := by
              intro fuel
              induction fuel with
              | zero => intro i v s2 Mx Hx locsx ls hfu hi hs2 hcv hnh hI hm_38 hm_39 hF_41 hl; exact absurd hfu (Nat.not_lt_zero _)
              | succ fuel ih_42 =>
                intro i v s2 Mx Hx locsx ls hfu hi hs2 hcv hnh hI hm_38 hm_39 hF_41 hl
                have hm_43 : Mx 65 = some (aI G 120 (nF mk)) := by rw [hF_41 65 (by omega) (by omega)]; exact h65
                have hm_44 : Mx 66 = some (aI G 120 mf) := by rw [hF_41 66 (by omega) (by omega)]; exact h66
                have hm_45 : Mx 67 = some (aI G 120 mu) := by rw [hF_41 67 (by omega) (by omega)]; exact h67
                have hm_46 : Mx 68 = some (aI G 121 (nF mz)) := by rw [hF_41 68 (by omega) (by omega)]; exact h68
                have hm_47 : Mx 69 = some (aI G 726 (nF rr)) := by rw [hF_41 69 (by omega) (by omega)]; exact h69
                have hm_48 : Mx 70 = some (aI G 726 (nF ee)) := by rw [hF_41 70 (by omega) (by omega)]; exact h70
                have hm_49 : Mx 64 = some (aZ G 6 (bF ho)) := by rw [hF_41 64 (by omega) (by omega)]; exact h64
                refine lv_iload hx hb dX10_strike_68 (lv_at hl 4 rfl) ?_
                refine lv_aload_n hx hb dX10_strike_70 rfl (lv_at hl 0 rfl) ?_
                refine h_get (C := RX10) (T := TX10) (N := 38) hx hb hts i_RX10 hown hI hm_38 rfl 11 (by decide) f_108 rfl rfl dX10_strike_71 ?_
                refine lv_icmp_ge (tgt := 226) hx hb dX10_strike_74 (by decide) (fun c_50 => ?_) (fun c_50 => ?_)
                · -- 74: nI i ge
                  have c_50 : n ≤ i := (nI_leI (a := n) (b := i) (by omega) (by omega)).mp (c_50)
                  have hin : i = n := by omega
                  refine lv_iload_n hx hb dX10_strike_226 rfl (lv_at hl 1 rfl) ?_
                  refine lv_istore (lv' := [(4, .int (nI q)), (0, .ref (ad 60)), (1, .int (nI q)), (2, .int d), (3, .int (nI v))]) hx hb dX10_strike_227 hl (by decide) rfl (fun ls hl => ?_)
                  have lp229_51 : ∀ (fuel : Nat) (i4 : Nat) (mu4 : Nat → Int32) (Mx : Mem) (Hx : Heap) (locsx : List Loc) (ls : Array Slot), (n - i4) < fuel → (q ≤ i4 ∧ i4 ≤ n) → (TI n fm to sz en q d i4 mu4) → Iv G z ad Mx s Hx locsx → Mx 60 = some (cModel ad 0 n on ao vr sn tp pt zs bg fa) → Mx 67 = some (aI G 120 mu4) → Mx 74 = some (aI G 120 s2) → (∀ j : Nat, j ≠ 60 → j ≠ 67 → j ≠ 74 → Mx j = M j) → lv_has ls 6 [(0, .ref (ad 60)), (1, .int (nI q)), (2, .int d), (3, .int (nI v)), (4, .int (nI i4))] → W p l e (headSpec wsX10_strike rm_c_X10_strike).room s m ([.ref (ad 60), .int (nI q), .int d] : List Value).toArray below meth c Hx locsx 0 0 Q (F0 m 229 ls []) := by
                    intro fuel
                    induction fuel with
                    | zero => intro i4 mu4 Mx Hx locsx ls hfu hi4 hti hI hm_52 hm_53 hm_54 hF_56 hl; exact absurd hfu (Nat.not_lt_zero _)
                    | succ fuel ih_57 =>
                      intro i4 mu4 Mx Hx locsx ls hfu hi4 hti hI hm_52 hm_53 hm_54 hF_56 hl
                      have hm_58 : Mx 65 = some (aI G 120 (nF mk)) := by rw [hF_56 65 (by omega) (by omega) (by omega)]; exact h65
                      have hm_59 : Mx 66 = some (aI G 120 mf) := by rw [hF_56 66 (by omega) (by omega) (by omega)]; exact h66
                      have hm_60 : Mx 68 = some (aI G 121 (nF mz)) := by rw [hF_56 68 (by omega) (by omega) (by omega)]; exact h68
                      have hm_61 : Mx 69 = some (aI G 726 (nF rr)) := by rw [hF_56 69 (by omega) (by omega) (by omega)]; exact h69
                      have hm_62 : Mx 70 = some (aI G 726 (nF ee)) := by rw [hF_56 70 (by omega) (by omega) (by omega)]; exact h70
                      have hm_63 : Mx 64 = some (aZ G 6 (bF ho)) := by rw [hF_56 64 (by omega) (by omega) (by omega)]; exact h64
                      refine lv_iload hx hb dX10_strike_229 (lv_at hl 4 rfl) ?_
                      refine lv_aload_n hx hb dX10_strike_231 rfl (lv_at hl 0 rfl) ?_
                      refine h_get (C := RX10) (T := TX10) (N := 38) hx hb hts i_RX10 hown hI hm_52 rfl 11 (by decide) f_108 rfl rfl dX10_strike_232 ?_
                      refine lv_icmp_ge (tgt := 270) hx hb dX10_strike_235 (by decide) (fun c_64 => ?_) (fun c_64 => ?_)
                      · -- 235: nI i4 ge
                        have c_64 : n ≤ i4 := (nI_leI (a := n) (b := i4) (by omega) (by omega)).mp (c_64)
                        refine lv_iload_n hx hb dX10_strike_270 rfl (lv_at hl 3 rfl) ?_
                        subst hQ
                        exact e_Ni hx hb hr rfl hlocks hI ⟨v, mu4, s2, rfl, hm_52, hm_53, hm_54, (fun j q0 q1 q2 => hF_56 j q0 q1 q2), ⟨fun _ => ⟨by rw [hcv, hin], fun l9 h9 => by rw [hti l9 h9, show i4 = n by omega]⟩, fun h9 => absurd ⟨by assumption, fun l9 h8 => hnh l9 (by omega)⟩ h9⟩⟩ dX10_strike_271
                      · -- 235: nI i4 lt
                        have c_64 : i4 < n := by have h := mt (nI_leI (a := n) (b := i4) (by omega) (by omega)).mpr c_64; omega
                        by_cases hc_65 : pQ fm to sz en q d i4 = true
                        · skip
                          refine lv_aload_n hx hb dX10_strike_238 rfl (lv_at hl 0 rfl) ?_
                          refine h_get (C := RX10) (T := TX10) (N := 38) hx hb hts i_RX10 hown hI hm_52 rfl 16 (by decide) f_54 rfl rfl dX10_strike_239 ?_
                          refine lv_iload hx hb dX10_strike_242 (lv_at hl 4 rfl) ?_
                          refine h_iald (i := i4) hx hb hI hm_54 (by omega) (by decide) dX10_strike_244 ?_
                          refine n_eq (show _ = dOf d (fm i4) from (hs2 i4 (by omega)).trans (if_pos ⟨by omega, hc_65⟩)) ?_
                          refine lv_if_lt (tgt := 264) hx hb dX10_strike_245 (by decide) (fun c_66 => ?_) (fun c_66 => ?_)
                          · -- 245: dOf d (fm i4) lt
                            exact absurd (by assumption) (dOf_nlt hd0)
                          · -- 245: dOf d (fm i4) ge
                            refine lv_aload_n hx hb dX10_strike_248 rfl (lv_at hl 0 rfl) ?_
                            refine h_get (C := RX10) (T := TX10) (N := 38) hx hb hts i_RX10 hown hI hm_52 rfl 7 (by decide) f_33 rfl rfl dX10_strike_249 ?_
                            refine lv_iload hx hb dX10_strike_252 (lv_at hl 4 rfl) ?_
                            refine lv_aload_n hx hb dX10_strike_254 rfl (lv_at hl 0 rfl) ?_
                            refine h_get (C := RX10) (T := TX10) (N := 38) hx hb hts i_RX10 hown hI hm_52 rfl 16 (by decide) f_54 rfl rfl dX10_strike_255 ?_
                            refine lv_iload hx hb dX10_strike_258 (lv_at hl 4 rfl) ?_
                            refine h_iald (i := i4) hx hb hI hm_54 (by omega) (by decide) dX10_strike_260 ?_
                            refine n_eq (show _ = dOf d (fm i4) from (hs2 i4 (by omega)).trans (if_pos ⟨by omega, hc_65⟩)) ?_
                            refine lv_iconst (v := nI 1) hx hb dX10_strike_261 (by decide) ?_
                            refine lv_isub hx hb dX10_strike_262 ?_
                            refine h_iast (i := i4) (x := (dOf d (fm i4)) - (nI 1)) hx hb hI hm_53 (by omega) (by decide) dX10_strike_263 (fun M_67 H_68 locs_69 eM_70 hI => ?_)
                            have hm_71 : M_67 65 = some (aI G 120 (nF mk)) := by rw [eM_70, va_up_ne _ _ (by decide)]; exact hm_58
                            have hm_72 : M_67 66 = some (aI G 120 mf) := by rw [eM_70, va_up_ne _ _ (by decide)]; exact hm_59
                            have hm_73 : M_67 68 = some (aI G 121 (nF mz)) := by rw [eM_70, va_up_ne _ _ (by decide)]; exact hm_60
                            have hm_74 : M_67 69 = some (aI G 726 (nF rr)) := by rw [eM_70, va_up_ne _ _ (by decide)]; exact hm_61
                            have hm_75 : M_67 70 = some (aI G 726 (nF ee)) := by rw [eM_70, va_up_ne _ _ (by decide)]; exact hm_62
                            have hm_76 : M_67 64 = some (aZ G 6 (bF ho)) := by rw [eM_70, va_up_ne _ _ (by decide)]; exact hm_63
                            have hm_77 : M_67 60 = some (cModel ad 0 n on ao vr sn tp pt zs bg fa) := by rw [eM_70, va_up_ne _ _ (by decide)]; exact hm_52
                            have hm_78 : M_67 67 = some (aI G 120 (upd mu4 i4 ((dOf d (fm i4)) - (nI 1)))) := by rw [eM_70]; exact va_up_self _ _ _
                            have hm_79 : M_67 74 = some (aI G 120 s2) := by rw [eM_70, va_up_ne _ _ (by decide)]; exact hm_54
                            have hF_80 : ∀ j : Nat, j ≠ 60 → j ≠ 67 → j ≠ 74 → M_67 j = M j := fun j q0 q1 q2 => by rw [eM_70, va_up_ne _ _ q1]; exact hF_56 j q0 q1 q2
                            refine lv_iinc (v := nI (i4 + 1)) (lv' := [(4, .int (nI (i4 + 1))), (0, .ref (ad 60)), (1, .int (nI q)), (2, .int d), (3, .int (nI v))]) hx hb dX10_strike_264 hl (k := 4) rfl (nI_add i4 1) (by decide) rfl (fun ls hl => ?_)
                            refine lv_goto (tgt := 229) hx hb dX10_strike_267 (by decide) ?_
                            exact ih_57 (i4 + 1) (upd mu4 i4 ((dOf d (fm i4)) - (nI 1))) M_67 H_68 locs_69 ls (by omega) (by omega) (ti_y hti hc_65) hI hm_77 hm_78 hm_79 (fun j q0 q1 q2 => hF_80 j q0 q1 q2) (lv_sub hl [1, 2, 3, 4, 0] rfl)
                        · skip
                          refine lv_aload_n hx hb dX10_strike_238 rfl (lv_at hl 0 rfl) ?_
                          refine h_get (C := RX10) (T := TX10) (N := 38) hx hb hts i_RX10 hown hI hm_52 rfl 16 (by decide) f_54 rfl rfl dX10_strike_239 ?_
                          refine lv_iload hx hb dX10_strike_242 (lv_at hl 4 rfl) ?_
                          refine h_iald (i := i4) hx hb hI hm_54 (by omega) (by decide) dX10_strike_244 ?_
                          refine n_eq (show _ = (-1) from (hs2 i4 (by omega)).trans (if_neg (fun h9 => hc_65 h9.2))) ?_
                          refine lv_if_lt (tgt := 264) hx hb dX10_strike_245 (by decide) (fun c_81 => ?_) (fun c_81 => ?_)
                          · -- 245: (-1) lt
                            refine lv_iinc (v := nI (i4 + 1)) (lv' := [(4, .int (nI (i4 + 1))), (0, .ref (ad 60)), (1, .int (nI q)), (2, .int d), (3, .int (nI v))]) hx hb dX10_strike_264 hl (k := 4) rfl (nI_add i4 1) (by decide) rfl (fun ls hl => ?_)
                            refine lv_goto (tgt := 229) hx hb dX10_strike_267 (by decide) ?_
                            exact ih_57 (i4 + 1) mu4 Mx Hx locsx ls (by omega) (by omega) (ti_n hti hc_65) hI hm_52 hm_53 hm_54 (fun j q0 q1 q2 => hF_56 j q0 q1 q2) (lv_sub hl [1, 2, 3, 4, 0] rfl)
                          · -- 245: (-1) ge
                            exact absurd (by decide) c_81
                  exact lp229_51 ((n - q) + 1) q mu Mx Hx locsx ls (Nat.lt_succ_self _) (by omega) (fun l9 h9 => (hmr l9 h9).2.2.1.trans (toS_q l9)) hI hm_38 hm_45 hm_39 (fun j q0 q1 q2 => hF_41 j q0 q2) (lv_sub hl [1, 2, 3, 4, 0] rfl)
                · -- 74: nI i lt
                  have c_50 : i < n := by have h := mt (nI_leI (a := n) (b := i) (by omega) (by omega)).mpr c_50; omega
                  obtain ⟨hk6i, hs6i, hjei⟩ := hw.2 i (by omega)
                  obtain ⟨hmki, hmfi, hmti, hmzi, hmji⟩ := hmr i (by omega)
                  have hei : ∀ e, e < sz i → en i e < 40 + i ∧ en i e < 1000 := fun e h => ⟨(hjei e h).2, by have := (hjei e h).2; omega⟩
                  refine lv_iload_n hx hb dX10_strike_77 rfl (lv_at hl 1 rfl) ?_
                  refine lv_istore (lv' := [(5, .int (nI q)), (0, .ref (ad 60)), (1, .int (nI q)), (2, .int d), (3, .int (nI v)), (4, .int (nI i))]) hx hb dX10_strike_78 hl (by decide) rfl (fun ls hl => ?_)
                  have lp80_82 : ∀ (fuel : Nat) (k : Nat) (v3 : Nat) (s3 : Nat → Int32) (Mx : Mem) (Hx : Heap) (locsx : List Loc) (ls : Array Slot), (i - k) < fuel → (q ≤ k ∧ k ≤ i) → (∀ l, l < n → l ≠ i → s3 l = s2 l) → (XS fm to sz en q d i k v v3 s3) → (XH kd ho fm to sz en q d i k) → Iv G z ad Mx s Hx locsx → Mx 60 = some (cModel ad 0 n on ao vr sn tp pt zs bg fa) → Mx 74 = some (aI G 120 s3) → (∀ j : Nat, j ≠ 60 → j ≠ 74 → Mx j = M j) → lv_has ls 6 [(0, .ref (ad 60)), (1, .int (nI q)), (2, .int d), (3, .int (nI v3)), (4, .int (nI i)), (5, .int (nI k))] → W p l e (headSpec wsX10_strike rm_c_X10_strike).room s m ([.ref (ad 60), .int (nI q), .int d] : List Value).toArray below meth c Hx locsx 0 0 Q (F0 m 80 ls []) := by
                    intro fuel
                    induction fuel with
                    | zero => intro k v3 s3 Mx Hx locsx ls hfu hk hs3 hx3 hh3 hI hm_83 hm_84 hF_86 hl; exact absurd hfu (Nat.not_lt_zero _)
                    | succ fuel ih_87 =>
                      intro k v3 s3 Mx Hx locsx ls hfu hk hs3 hx3 hh3 hI hm_83 hm_84 hF_86 hl
                      have hm_88 : Mx 65 = some (aI G 120 (nF mk)) := by rw [hF_86 65 (by omega) (by omega)]; exact h65
                      have hm_89 : Mx 66 = some (aI G 120 mf) := by rw [hF_86 66 (by omega) (by omega)]; exact h66
                      have hm_90 : Mx 67 = some (aI G 120 mu) := by rw [hF_86 67 (by omega) (by omega)]; exact h67
                      have hm_91 : Mx 68 = some (aI G 121 (nF mz)) := by rw [hF_86 68 (by omega) (by omega)]; exact h68
                      have hm_92 : Mx 69 = some (aI G 726 (nF rr)) := by rw [hF_86 69 (by omega) (by omega)]; exact h69
                      have hm_93 : Mx 70 = some (aI G 726 (nF ee)) := by rw [hF_86 70 (by omega) (by omega)]; exact h70
                      have hm_94 : Mx 64 = some (aZ G 6 (bF ho)) := by rw [hF_86 64 (by omega) (by omega)]; exact h64
                      refine lv_iload hx hb dX10_strike_80 (lv_at hl 5 rfl) ?_
                      refine lv_iload hx hb dX10_strike_82 (lv_at hl 4 rfl) ?_
                      refine lv_icmp_ge (tgt := 220) hx hb dX10_strike_84 (by decide) (fun c_95 => ?_) (fun c_95 => ?_)
                      · -- 84: nI k ge
                        have c_95 : i ≤ k := (nI_leI (a := i) (b := k) (by omega) (by omega)).mp (c_95)
                        rw [show k = i by omega] at hx3 hh3
                        refine lv_iinc (v := nI (i + 1)) (lv' := [(4, .int (nI (i + 1))), (0, .ref (ad 60)), (1, .int (nI q)), (2, .int d), (3, .int (nI v3)), (5, .int (nI k))]) hx hb dX10_strike_220 hl (k := 4) rfl (nI_add i 1) (by decide) rfl (fun ls hl => ?_)
                        refine lv_goto (tgt := 68) hx hb dX10_strike_223 (by decide) ?_
                        exact ih_42 (i + 1) v3 s3 Mx Hx locsx ls (by omega) (by omega) (si_next hs2 hs3 hx3 (by omega) hei) (cv_next hcv hx3 (by omega) hei) (nh_next hnh hh3 hei) hI hm_83 hm_84 (fun j q0 q1 => hF_86 j q0 q1) (lv_sub hl [1, 2, 3, 4, 0] rfl)
                      · -- 84: nI k lt
                        have c_95 : k < i := by have h := mt (nI_leI (a := i) (b := k) (by omega) (by omega)).mpr c_95; omega
                        obtain ⟨hk6k, hs6k, hjek⟩ := hw.2 k (by omega)
                        obtain ⟨hmkk, hmfk, hmtk, hmzk, hmjk⟩ := hmr k (by omega)
                        by_cases hc_96 : stk fm to sz en q d k = true
                        · skip
                          refine lv_aload_n hx hb dX10_strike_87 rfl (lv_at hl 0 rfl) ?_
                          refine h_get (C := RX10) (T := TX10) (N := 38) hx hb hts i_RX10 hown hI hm_83 rfl 16 (by decide) f_54 rfl rfl dX10_strike_88 ?_
                          refine lv_iload hx hb dX10_strike_91 (lv_at hl 5 rfl) ?_
                          refine h_iald (i := k) hx hb hI hm_84 (by omega) (by decide) dX10_strike_93 ?_
                          refine n_eq (show _ = dOf d (fm k) from (hs3 k (by omega) (by omega)).trans (by rw [hs2 k (by omega), if_pos ⟨by omega, by rw [pQ_hi (by omega)]; exact hc_96⟩])) ?_
                          refine lv_if_lt (tgt := 214) hx hb dX10_strike_94 (by decide) (fun c_97 => ?_) (fun c_97 => ?_)
                          · -- 94: dOf d (fm k) lt
                            exact absurd (by assumption) (dOf_nlt hd0)
                          · -- 94: dOf d (fm k) ge
                            refine lv_aload_n hx hb dX10_strike_97 rfl (lv_at hl 0 rfl) ?_
                            refine lv_iload hx hb dX10_strike_98 (lv_at hl 4 rfl) ?_
                            refine lv_iload hx hb dX10_strike_100 (lv_at hl 5 rfl) ?_
                            refine k_Ri (va_runV (As := [.int (nI i), .int (nI k)]) (rest := []) ⟨hx, hb, hml, hown, hts⟩ (c_X10_hangs l G z ad Mx (th := 0) (ln := n) (on := on) (ao := ao) (vr := vr) (sn := sn) (tp := tp) (pt := pt) (zs := zs) (bg := bg) (fa := fa) (n := n) (kd := kd) (fm := fm) (to := to) (sz := sz) (rl := rl) (en := en) (mk := mk) (mf := mf) (mu := mu) (mz := mz) (rr := rr) (ee := ee) (q := i) (x := k) hm_83 hm_91 hm_93 hw hmr (by omega) (by omega)) (cwV 2 hts (gV (lwg_of t_1188 rfl) (lwg_of t_1190 rfl) (lwg_of ts_29 rfl) (lwg_of t_13 rfl) (lwg_of t_1191 rfl)) rfl rfl rfl (by decide +kernel) ⟨Nat.le_of_ble_eq_true rfl, Nat.le_of_ble_eq_true rfl⟩) (hI.preV hm_83 rfl) rfl rfl hl.1 rfl (lv_room (Nat.le_of_ble_eq_true rfl)) dX10_strike_102 ⟨Nat.le_of_ble_eq_true rfl, Nat.le_of_ble_eq_true rfl⟩) (fun _ h => h) (fun r_98 hp_99 => ?_)
                            rw [hp_99]
                            refine lv_if_eq (tgt := 214) hx hb dX10_strike_105 (by decide) (fun c_100 => ?_) (fun c_100 => ?_)
                            · -- 105: bI (hgs sz en i k) eq
                              have c_100 : hgs sz en i k = false := bI_f (c_100)
                              refine lv_iinc (v := nI (k + 1)) (lv' := [(5, .int (nI (k + 1))), (0, .ref (ad 60)), (1, .int (nI q)), (2, .int d), (3, .int (nI v3)), (4, .int (nI i))]) hx hb dX10_strike_214 hl (k := 5) rfl (nI_add k 1) (by decide) rfl (fun ls hl => ?_)
                              refine lv_goto (tgt := 80) hx hb dX10_strike_217 (by decide) ?_
                              exact ih_87 (k + 1) v3 s3 Mx Hx locsx ls (by omega) (by omega) (hs3) (xs_no hx3 (fun h9 => absurd h9.2.1 (by rw [show hgs sz en i k = false by assumption]; exact Bool.false_ne_true))) (xh_no hh3 (fun h9 => absurd h9.2.1 (by rw [show hgs sz en i k = false by assumption]; exact Bool.false_ne_true))) hI hm_83 hm_84 (fun j q0 q1 => hF_86 j q0 q1) (lv_sub hl [1, 2, 3, 4, 5, 0] rfl)
                            · -- 105: bI (hgs sz en i k) ne
                              have c_100 : hgs sz en i k = true := bI_t (c_100)
                              refine lv_aload_n hx hb dX10_strike_108 rfl (lv_at hl 0 rfl) ?_
                              refine h_get (C := RX10) (T := TX10) (N := 38) hx hb hts i_RX10 hown hI hm_83 rfl 7 (by decide) f_33 rfl rfl dX10_strike_109 ?_
                              refine lv_iload hx hb dX10_strike_112 (lv_at hl 4 rfl) ?_
                              refine h_iald (i := i) hx hb hI hm_90 (by omega) (by decide) dX10_strike_114 ?_
                              refine n_eq (show _ = to i from hmti) ?_
                              refine lv_aload_n hx hb dX10_strike_115 rfl (lv_at hl 0 rfl) ?_
                              refine h_get (C := RX10) (T := TX10) (N := 38) hx hb hts i_RX10 hown hI hm_83 rfl 6 (by decide) f_30 rfl rfl dX10_strike_116 ?_
                              refine lv_iload hx hb dX10_strike_119 (lv_at hl 4 rfl) ?_
                              refine h_iald (i := i) hx hb hI hm_89 (by omega) (by decide) dX10_strike_121 ?_
                              refine n_eq (show _ = fm i from hmfi) ?_
                              refine lv_icmp_lt (tgt := 214) hx hb dX10_strike_122 (by decide) (fun c_101 => ?_) (fun c_101 => ?_)
                              · -- 122: to i lt
                                refine lv_iinc (v := nI (k + 1)) (lv' := [(5, .int (nI (k + 1))), (0, .ref (ad 60)), (1, .int (nI q)), (2, .int d), (3, .int (nI v3)), (4, .int (nI i))]) hx hb dX10_strike_214 hl (k := 5) rfl (nI_add k 1) (by decide) rfl (fun ls hl => ?_)
                                refine lv_goto (tgt := 80) hx hb dX10_strike_217 (by decide) ?_
                                exact ih_87 (k + 1) v3 s3 Mx Hx locsx ls (by omega) (by omega) (hs3) (xs_no hx3 (fun h9 => i_lnle (by assumption) h9.2.2.1)) (xh_no hh3 (fun h9 => i_lnle (by assumption) h9.2.2.1)) hI hm_83 hm_84 (fun j q0 q1 => hF_86 j q0 q1) (lv_sub hl [1, 2, 3, 4, 5, 0] rfl)
                              · -- 122: to i ge
                                have hfti : fm i ≤ to i := i_nlt (by assumption)
                                refine lv_aload_n hx hb dX10_strike_125 rfl (lv_at hl 0 rfl) ?_
                                refine h_get (C := RX10) (T := TX10) (N := 38) hx hb hts i_RX10 hown hI hm_83 rfl 7 (by decide) f_33 rfl rfl dX10_strike_126 ?_
                                refine lv_iload hx hb dX10_strike_129 (lv_at hl 4 rfl) ?_
                                refine h_iald (i := i) hx hb hI hm_90 (by omega) (by decide) dX10_strike_131 ?_
                                refine n_eq (show _ = to i from hmti) ?_
                                refine lv_aload_n hx hb dX10_strike_132 rfl (lv_at hl 0 rfl) ?_
                                refine h_get (C := RX10) (T := TX10) (N := 38) hx hb hts i_RX10 hown hI hm_83 rfl 16 (by decide) f_54 rfl rfl dX10_strike_133 ?_
                                refine lv_iload hx hb dX10_strike_136 (lv_at hl 5 rfl) ?_
                                refine h_iald (i := k) hx hb hI hm_84 (by omega) (by decide) dX10_strike_138 ?_
                                refine n_eq (show _ = dOf d (fm k) from (hs3 k (by omega) (by omega)).trans (by rw [hs2 k (by omega), if_pos ⟨by omega, by rw [pQ_hi (by omega)]; exact hc_96⟩])) ?_
                                refine lv_icmp_ge (tgt := 145) hx hb dX10_strike_139 (by decide) (fun c_102 => ?_) (fun c_102 => ?_)
                                · -- 139: to i ge
                                  refine lv_aload_n hx hb dX10_strike_145 rfl (lv_at hl 0 rfl) ?_
                                  refine h_get (C := RX10) (T := TX10) (N := 38) hx hb hts i_RX10 hown hI hm_83 rfl 4 (by decide) f_23 rfl rfl dX10_strike_146 ?_
                                  refine lv_aload_n hx hb dX10_strike_149 rfl (lv_at hl 0 rfl) ?_
                                  refine h_get (C := RX10) (T := TX10) (N := 38) hx hb hts i_RX10 hown hI hm_83 rfl 5 (by decide) f_27 rfl rfl dX10_strike_150 ?_
                                  refine lv_iload hx hb dX10_strike_153 (lv_at hl 5 rfl) ?_
                                  refine h_iald (i := k) hx hb hI hm_88 (by omega) (by decide) dX10_strike_155 ?_
                                  refine n_eq (show _ = nI (kd k) from congrArg nI hmkk) ?_
                                  refine h_zald (i := kd k) hx hb hI hm_94 (by omega) (by decide) dX10_strike_156 ?_
                                  refine lv_if_eq (tgt := 162) hx hb dX10_strike_157 (by decide) (fun c_103 => ?_) (fun c_103 => ?_)
                                  · -- 157: bI (ho (kd k)) eq
                                    have c_103 : ho (kd k) = false := bI_f (c_103)
                                    by_cases hc_104 : s3 i = -1
                                    · skip
                                      refine lv_iload_n hx hb dX10_strike_162 rfl (lv_at hl 3 rfl) ?_
                                      refine lv_aload_n hx hb dX10_strike_163 rfl (lv_at hl 0 rfl) ?_
                                      refine h_get (C := RX10) (T := TX10) (N := 38) hx hb hts i_RX10 hown hI hm_83 rfl 16 (by decide) f_54 rfl rfl dX10_strike_164 ?_
                                      refine lv_iload hx hb dX10_strike_167 (lv_at hl 4 rfl) ?_
                                      refine h_iald (i := i) hx hb hI hm_84 (by omega) (by decide) dX10_strike_169 ?_
                                      refine n_eq (show _ = (-1) from hc_104) ?_
                                      refine lv_if_ge (tgt := 177) hx hb dX10_strike_170 (by decide) (fun c_105 => ?_) (fun c_105 => ?_)
                                      · -- 170: (-1) ge
                                        exact absurd c_105 (by decide)
                                      · -- 170: (-1) lt
                                        refine lv_iconst (v := nI 1) hx hb dX10_strike_173 (by decide) ?_
                                        refine lv_goto (tgt := 178) hx hb dX10_strike_174 (by decide) ?_
                                        refine lv_iadd hx hb dX10_strike_178 ?_
                                        refine n_eq (nI_add v3 1) ?_
                                        refine lv_istore_n (lv' := [(3, .int (nI (v3 + 1))), (0, .ref (ad 60)), (1, .int (nI q)), (2, .int d), (4, .int (nI i)), (5, .int (nI k))]) hx hb dX10_strike_179 rfl hl (by decide) rfl (fun ls hl => ?_)
                                        refine lv_aload_n hx hb dX10_strike_180 rfl (lv_at hl 1 rfl) ?_
                                        refine h_get (C := RX10) (T := TX10) (N := 38) hx hb hts i_RX10 hown hI hm_83 rfl 16 (by decide) f_54 rfl rfl dX10_strike_181 ?_
                                        refine lv_iload hx hb dX10_strike_184 (lv_at hl 4 rfl) ?_
                                        refine lv_aload_n hx hb dX10_strike_186 rfl (lv_at hl 1 rfl) ?_
                                        refine h_get (C := RX10) (T := TX10) (N := 38) hx hb hts i_RX10 hown hI hm_83 rfl 16 (by decide) f_54 rfl rfl dX10_strike_187 ?_
                                        refine lv_iload hx hb dX10_strike_190 (lv_at hl 4 rfl) ?_
                                        refine h_iald (i := i) hx hb hI hm_84 (by omega) (by decide) dX10_strike_192 ?_
                                        refine n_eq (show _ = (-1) from hc_104) ?_
                                        refine lv_aload_n hx hb dX10_strike_193 rfl (lv_at hl 1 rfl) ?_
                                        refine h_get (C := RX10) (T := TX10) (N := 38) hx hb hts i_RX10 hown hI hm_83 rfl 16 (by decide) f_54 rfl rfl dX10_strike_194 ?_
                                        refine lv_iload hx hb dX10_strike_197 (lv_at hl 5 rfl) ?_
                                        refine h_iald (i := k) hx hb hI hm_84 (by omega) (by decide) dX10_strike_199 ?_
                                        refine n_eq (show _ = dOf d (fm k) from (hs3 k (by omega) (by omega)).trans (by rw [hs2 k (by omega), if_pos ⟨by omega, by rw [pQ_hi (by omega)]; exact hc_96⟩])) ?_
                                        refine lv_aload_n hx hb dX10_strike_200 rfl (lv_at hl 1 rfl) ?_
                                        refine h_get (C := RX10) (T := TX10) (N := 38) hx hb hts i_RX10 hown hI hm_83 rfl 6 (by decide) f_30 rfl rfl dX10_strike_201 ?_
                                        refine lv_iload hx hb dX10_strike_204 (lv_at hl 4 rfl) ?_
                                        refine h_iald (i := i) hx hb hI hm_89 (by omega) (by decide) dX10_strike_206 ?_
                                        refine n_eq (show _ = fm i from hmfi) ?_
                                        refine va_mmax hx hb (by rw [hml]; exact hl.1.symm) hown m_146 s_mmax s_mi s_mcmax (Nat.le_of_ble_eq_true rfl) (Nat.le_of_ble_eq_true rfl) (Nat.le_of_ble_eq_true rfl) (Nat.le_of_ble_eq_true rfl) dX10_strike_207 ?_
                                        refine n_eq (show _ = dOf d (fm i) from dOf_mx (hord i (by omega) k (by assumption))) ?_
                                        refine va_mmax hx hb (by rw [hml]; exact hl.1.symm) hown m_146 s_mmax s_mi s_mcmax (Nat.le_of_ble_eq_true rfl) (Nat.le_of_ble_eq_true rfl) (Nat.le_of_ble_eq_true rfl) (Nat.le_of_ble_eq_true rfl) dX10_strike_210 ?_
                                        refine n_eq (show _ = dOf d (fm i) from dOf_m1 hd0) ?_
                                        refine h_iast (i := i) (x := dOf d (fm i)) hx hb hI hm_84 (by omega) (by decide) dX10_strike_213 (fun M_106 H_107 locs_108 eM_109 hI => ?_)
                                        have hm_110 : M_106 65 = some (aI G 120 (nF mk)) := by rw [eM_109, va_up_ne _ _ (by decide)]; exact hm_88
                                        have hm_111 : M_106 66 = some (aI G 120 mf) := by rw [eM_109, va_up_ne _ _ (by decide)]; exact hm_89
                                        have hm_112 : M_106 67 = some (aI G 120 mu) := by rw [eM_109, va_up_ne _ _ (by decide)]; exact hm_90
                                        have hm_113 : M_106 68 = some (aI G 121 (nF mz)) := by rw [eM_109, va_up_ne _ _ (by decide)]; exact hm_91
                                        have hm_114 : M_106 69 = some (aI G 726 (nF rr)) := by rw [eM_109, va_up_ne _ _ (by decide)]; exact hm_92
                                        have hm_115 : M_106 70 = some (aI G 726 (nF ee)) := by rw [eM_109, va_up_ne _ _ (by decide)]; exact hm_93
                                        have hm_116 : M_106 64 = some (aZ G 6 (bF ho)) := by rw [eM_109, va_up_ne _ _ (by decide)]; exact hm_94
                                        have hm_117 : M_106 60 = some (cModel ad 0 n on ao vr sn tp pt zs bg fa) := by rw [eM_109, va_up_ne _ _ (by decide)]; exact hm_83
                                        have hm_118 : M_106 74 = some (aI G 120 (upd s3 i (dOf d (fm i)))) := by rw [eM_109]; exact va_up_self _ _ _
                                        have hF_119 : ∀ j : Nat, j ≠ 60 → j ≠ 74 → M_106 j = M j := fun j q0 q1 => by rw [eM_109, va_up_ne _ _ q1]; exact hF_86 j q0 q1
                                        refine lv_iinc (v := nI (k + 1)) (lv' := [(5, .int (nI (k + 1))), (3, .int (nI (v3 + 1))), (0, .ref (ad 60)), (1, .int (nI q)), (2, .int d), (4, .int (nI i))]) hx hb dX10_strike_214 hl (k := 5) rfl (nI_add k 1) (by decide) rfl (fun ls hl => ?_)
                                        refine lv_goto (tgt := 80) hx hb dX10_strike_217 (by decide) ?_
                                        exact ih_87 (k + 1) (v3 + 1) (upd s3 i (dOf d (fm i))) M_106 H_107 locs_108 ls (by omega) (by omega) (fun l9 h9 h8 => (up_ne _ _ h8).trans (hs3 l9 h9 h8)) (xs_y1 hx3 hd0 hc_104 ⟨k, by omega, by omega, by assumption, by assumption, hfti, dOf_dle (by assumption)⟩) (xh_yes hh3 (by assumption)) hI hm_117 hm_118 (fun j q0 q1 => hF_119 j q0 q1) (lv_sub hl [2, 3, 4, 1, 5, 0] rfl)
                                    · skip
                                      refine lv_iload_n hx hb dX10_strike_162 rfl (lv_at hl 3 rfl) ?_
                                      refine lv_aload_n hx hb dX10_strike_163 rfl (lv_at hl 0 rfl) ?_
                                      refine h_get (C := RX10) (T := TX10) (N := 38) hx hb hts i_RX10 hown hI hm_83 rfl 16 (by decide) f_54 rfl rfl dX10_strike_164 ?_
                                      refine lv_iload hx hb dX10_strike_167 (lv_at hl 4 rfl) ?_
                                      refine h_iald (i := i) hx hb hI hm_84 (by omega) (by decide) dX10_strike_169 ?_
                                      refine n_eq (show _ = dOf d (fm i) from xs_at hx3 hc_104) ?_
                                      refine lv_if_ge (tgt := 177) hx hb dX10_strike_170 (by decide) (fun c_120 => ?_) (fun c_120 => ?_)
                                      · -- 170: dOf d (fm i) ge
                                        refine lv_iconst (v := nI 0) hx hb dX10_strike_177 (by decide) ?_
                                        refine lv_iadd hx hb dX10_strike_178 ?_
                                        refine n_eq (nI_add v3 0) ?_
                                        refine lv_istore_n (lv' := [(3, .int (nI (v3 + 0))), (0, .ref (ad 60)), (1, .int (nI q)), (2, .int d), (4, .int (nI i)), (5, .int (nI k))]) hx hb dX10_strike_179 rfl hl (by decide) rfl (fun ls hl => ?_)
                                        refine lv_aload_n hx hb dX10_strike_180 rfl (lv_at hl 1 rfl) ?_
                                        refine h_get (C := RX10) (T := TX10) (N := 38) hx hb hts i_RX10 hown hI hm_83 rfl 16 (by decide) f_54 rfl rfl dX10_strike_181 ?_
                                        refine lv_iload hx hb dX10_strike_184 (lv_at hl 4 rfl) ?_
                                        refine lv_aload_n hx hb dX10_strike_186 rfl (lv_at hl 1 rfl) ?_
                                        refine h_get (C := RX10) (T := TX10) (N := 38) hx hb hts i_RX10 hown hI hm_83 rfl 16 (by decide) f_54 rfl rfl dX10_strike_187 ?_
                                        refine lv_iload hx hb dX10_strike_190 (lv_at hl 4 rfl) ?_
                                        refine h_iald (i := i) hx hb hI hm_84 (by omega) (by decide) dX10_strike_192 ?_
                                        refine n_eq (show _ = dOf d (fm i) from xs_at hx3 hc_104) ?_
                                        refine lv_aload_n hx hb dX10_strike_193 rfl (lv_at hl 1 rfl) ?_
                                        refine h_get (C := RX10) (T := TX10) (N := 38) hx hb hts i_RX10 hown hI hm_83 rfl 16 (by decide) f_54 rfl rfl dX10_strike_194 ?_
                                        refine lv_iload hx hb dX10_strike_197 (lv_at hl 5 rfl) ?_
                                        refine h_iald (i := k) hx hb hI hm_84 (by omega) (by decide) dX10_strike_199 ?_
                                        refine n_eq (show _ = dOf d (fm k) from (hs3 k (by omega) (by omega)).trans (by rw [hs2 k (by omega), if_pos ⟨by omega, by rw [pQ_hi (by omega)]; exact hc_96⟩])) ?_
                                        refine lv_aload_n hx hb dX10_strike_200 rfl (lv_at hl 1 rfl) ?_
                                        refine h_get (C := RX10) (T := TX10) (N := 38) hx hb hts i_RX10 hown hI hm_83 rfl 6 (by decide) f_30 rfl rfl dX10_strike_201 ?_
                                        refine lv_iload hx hb dX10_strike_204 (lv_at hl 4 rfl) ?_
                                        refine h_iald (i := i) hx hb hI hm_89 (by omega) (by decide) dX10_strike_206 ?_
                                        refine n_eq (show _ = fm i from hmfi) ?_
                                        refine va_mmax hx hb (by rw [hml]; exact hl.1.symm) hown m_146 s_mmax s_mi s_mcmax (Nat.le_of_ble_eq_true rfl) (Nat.le_of_ble_eq_true rfl) (Nat.le_of_ble_eq_true rfl) (Nat.le_of_ble_eq_true rfl) dX10_strike_207 ?_
                                        refine n_eq (show _ = dOf d (fm i) from dOf_mx (hord i (by omega) k (by assumption))) ?_
                                        refine va_mmax hx hb (by rw [hml]; exact hl.1.symm) hown m_146 s_mmax s_mi s_mcmax (Nat.le_of_ble_eq_true rfl) (Nat.le_of_ble_eq_true rfl) (Nat.le_of_ble_eq_true rfl) (Nat.le_of_ble_eq_true rfl) dX10_strike_210 ?_
                                        refine n_eq (show _ = dOf d (fm i) from ite_self _) ?_
                                        refine h_iast (i := i) (x := dOf d (fm i)) hx hb hI hm_84 (by omega) (by decide) dX10_strike_213 (fun M_121 H_122 locs_123 eM_124 hI => ?_)
                                        have hm_125 : M_121 65 = some (aI G 120 (nF mk)) := by rw [eM_124, va_up_ne _ _ (by decide)]; exact hm_88
                                        have hm_126 : M_121 66 = some (aI G 120 mf) := by rw [eM_124, va_up_ne _ _ (by decide)]; exact hm_89
                                        have hm_127 : M_121 67 = some (aI G 120 mu) := by rw [eM_124, va_up_ne _ _ (by decide)]; exact hm_90
                                        have hm_128 : M_121 68 = some (aI G 121 (nF mz)) := by rw [eM_124, va_up_ne _ _ (by decide)]; exact hm_91
                                        have hm_129 : M_121 69 = some (aI G 726 (nF rr)) := by rw [eM_124, va_up_ne _ _ (by decide)]; exact hm_92
                                        have hm_130 : M_121 70 = some (aI G 726 (nF ee)) := by rw [eM_124, va_up_ne _ _ (by decide)]; exact hm_93
                                        have hm_131 : M_121 64 = some (aZ G 6 (bF ho)) := by rw [eM_124, va_up_ne _ _ (by decide)]; exact hm_94
                                        have hm_132 : M_121 60 = some (cModel ad 0 n on ao vr sn tp pt zs bg fa) := by rw [eM_124, va_up_ne _ _ (by decide)]; exact hm_83
                                        have hm_133 : M_121 74 = some (aI G 120 (upd s3 i (dOf d (fm i)))) := by rw [eM_124]; exact va_up_self _ _ _
                                        have hF_134 : ∀ j : Nat, j ≠ 60 → j ≠ 74 → M_121 j = M j := fun j q0 q1 => by rw [eM_124, va_up_ne _ _ q1]; exact hF_86 j q0 q1
                                        refine lv_iinc (v := nI (k + 1)) (lv' := [(5, .int (nI (k + 1))), (3, .int (nI (v3 + 0))), (0, .ref (ad 60)), (1, .int (nI q)), (2, .int d), (4, .int (nI i))]) hx hb dX10_strike_214 hl (k := 5) rfl (nI_add k 1) (by decide) rfl (fun ls hl => ?_)
                                        refine lv_goto (tgt := 80) hx hb dX10_strike_217 (by decide) ?_
                                        exact ih_87 (k + 1) (v3 + 0) (upd s3 i (dOf d (fm i))) M_121 H_122 locs_123 ls (by omega) (by omega) (fun l9 h9 h8 => (up_ne _ _ h8).trans (hs3 l9 h9 h8)) (xs_y2 hx3 hc_104 ⟨k, by omega, by omega, by assumption, by assumption, hfti, dOf_dle (by assumption)⟩) (xh_yes hh3 (by assumption)) hI hm_132 hm_133 (fun j q0 q1 => hF_134 j q0 q1) (lv_sub hl [2, 3, 4, 1, 5, 0] rfl)
                                      · -- 170: dOf d (fm i) lt
                                        exact absurd (dOf_pos hd0) (by assumption)
                                  · -- 157: bI (ho (kd k)) ne
                                    have c_103 : ho (kd k) = true := bI_t (c_103)
                                    refine lv_iconst (v := nI 0) hx hb dX10_strike_160 (by decide) ?_
                                    subst hQ
                                    exact e_Ni hx hb hr rfl hlocks hI ⟨0, mu, s3, rfl, hm_83, hm_90, hm_84, (fun j q0 q1 q2 => hF_86 j q0 q2), ⟨fun h9 => absurd (hld_y (by omega) (by assumption) (by omega) (by assumption) hfti (dOf_dle (by assumption)) (by assumption)) (h9.2 i (by omega)), fun _ => ⟨rfl, fun l9 h9 => (hmr l9 h9).2.2.1⟩⟩⟩ dX10_strike_161
                                · -- 139: to i lt
                                  refine lv_goto (tgt := 214) hx hb dX10_strike_142 (by decide) ?_
                                  refine lv_iinc (v := nI (k + 1)) (lv' := [(5, .int (nI (k + 1))), (0, .ref (ad 60)), (1, .int (nI q)), (2, .int d), (3, .int (nI v3)), (4, .int (nI i))]) hx hb dX10_strike_214 hl (k := 5) rfl (nI_add k 1) (by decide) rfl (fun ls hl => ?_)
                                  refine lv_goto (tgt := 80) hx hb dX10_strike_217 (by decide) ?_
                                  exact ih_87 (k + 1) v3 s3 Mx Hx locsx ls (by omega) (by omega) (hs3) (xs_no hx3 (fun h9 => absurd (dOf_le (d := d) (hord i (by omega) k h9.2.1) h9.2.2.1 h9.2.2.2) (by assumption))) (xh_no hh3 (fun h9 => absurd (dOf_le (d := d) (hord i (by omega) k h9.2.1) h9.2.2.1 h9.2.2.2) (by assumption))) hI hm_83 hm_84 (fun j q0 q1 => hF_86 j q0 q1) (lv_sub hl [1, 2, 3, 4, 5, 0] rfl)
                        · skip
                          refine lv_aload_n hx hb dX10_strike_87 rfl (lv_at hl 0 rfl) ?_
                          refine h_get (C := RX10) (T := TX10) (N := 38) hx hb hts i_RX10 hown hI hm_83 rfl 16 (by decide) f_54 rfl rfl dX10_strike_88 ?_
                          refine lv_iload hx hb dX10_strike_91 (lv_at hl 5 rfl) ?_
                          refine h_iald (i := k) hx hb hI hm_84 (by omega) (by decide) dX10_strike_93 ?_
                          refine n_eq (show _ = (-1) from (hs3 k (by omega) (by omega)).trans (by rw [hs2 k (by omega), if_neg (fun h9 => hc_96 (by have h8 := h9.2; rw [pQ_hi (by omega)] at h8; exact h8))])) ?_
                          refine lv_if_lt (tgt := 214) hx hb dX10_strike_94 (by decide) (fun c_135 => ?_) (fun c_135 => ?_)
                          · -- 94: (-1) lt
                            refine lv_iinc (v := nI (k + 1)) (lv' := [(5, .int (nI (k + 1))), (0, .ref (ad 60)), (1, .int (nI q)), (2, .int d), (3, .int (nI v3)), (4, .int (nI i))]) hx hb dX10_strike_214 hl (k := 5) rfl (nI_add k 1) (by decide) rfl (fun ls hl => ?_)
                            refine lv_goto (tgt := 80) hx hb dX10_strike_217 (by decide) ?_
                            exact ih_87 (k + 1) v3 s3 Mx Hx locsx ls (by omega) (by omega) (hs3) (xs_no hx3 (fun h9 => absurd h9.1 hc_96)) (xh_no hh3 (fun h9 => absurd h9.1 hc_96)) hI hm_83 hm_84 (fun j q0 q1 => hF_86 j q0 q1) (lv_sub hl [1, 2, 3, 4, 5, 0] rfl)
                          · -- 94: (-1) ge
                            exact absurd (by decide) c_135
                  exact lp80_82 ((i - q) + 1) q v s2 Mx Hx locsx ls (Nat.lt_succ_self _) (by omega) (fun _ _ _ => rfl) (Or.inl ⟨(hs2 i (by omega)).trans (if_neg (fun h9 => absurd h9.1 (by omega))), rfl, fun ⟨u, h1, h2, _⟩ => absurd h2 (by omega)⟩) (fun u h1 h2 => absurd h2 (by omega)) hI hm_38 hm_39 (fun j q0 q1 => hF_41 j q0 q1) (lv_sub hl [1, 2, 3, 4, 5, 0] rfl)
            exact lp68_37 ((n - (q + 1)) + 1) (q + 1) 1 s1 Mx Hx locsx ls (Nat.lt_succ_self _) (by omega) (si_0 hs1 (by omega) hon.1 heq) (cv_0 heq) (fun l9 h9 h8 => absurd h8.1 (by omega)) hI hm_24 hm_25 (fun j q0 q1 => hF_27 j q0 q1) (lv_sub hl [2, 3, 4, 1, 0] rfl)
          · -- 36: nI j lt
            have c_36 : j < n := by have h := mt (nI_leI (a := n) (b := j) (by omega) (by omega)).mpr c_36; omega
            refine lv_aload_n hx hb dX10_strike_39 rfl (lv_at hl 0 rfl) ?_
            refine h_get (C := RX10) (T := TX10) (N := 38) hx hb hts i_RX10 hown hI hm_24 rfl 16 (by decide) f_54 rfl rfl dX10_strike_40 ?_
            refine lv_iload_n hx hb dX10_strike_43 rfl (lv_at hl 3 rfl) ?_
            refine lv_iload_n hx hb dX10_strike_44 rfl (lv_at hl 3 rfl) ?_
            refine lv_iload_n hx hb dX10_strike_45 rfl (lv_at hl 1 rfl) ?_
            refine lv_icmp_ne (tgt := 53) hx hb dX10_strike_46 (by decide) (fun c_136 => ?_) (fun c_136 => ?_)
            · -- 46: nI j ne
              have c_136 : j ≠ q := by have h := mt (nI_eq (a := j) (b := q) (by omega) (by omega)).mpr c_136; omega
              refine lv_iconst (v := (-1)) hx hb dX10_strike_53 (by decide) ?_
              refine h_iast (i := j) (x := (-1)) hx hb hI hm_25 (by omega) (by decide) dX10_strike_54 (fun M_137 H_138 locs_139 eM_140 hI => ?_)
              have hm_141 : M_137 65 = some (aI G 120 (nF mk)) := by rw [eM_140, va_up_ne _ _ (by decide)]; exact hm_29
              have hm_142 : M_137 66 = some (aI G 120 mf) := by rw [eM_140, va_up_ne _ _ (by decide)]; exact hm_30
              have hm_143 : M_137 67 = some (aI G 120 mu) := by rw [eM_140, va_up_ne _ _ (by decide)]; exact hm_31
              have hm_144 : M_137 68 = some (aI G 121 (nF mz)) := by rw [eM_140, va_up_ne _ _ (by decide)]; exact hm_32
              have hm_145 : M_137 69 = some (aI G 726 (nF rr)) := by rw [eM_140, va_up_ne _ _ (by decide)]; exact hm_33
              have hm_146 : M_137 70 = some (aI G 726 (nF ee)) := by rw [eM_140, va_up_ne _ _ (by decide)]; exact hm_34
              have hm_147 : M_137 64 = some (aZ G 6 (bF ho)) := by rw [eM_140, va_up_ne _ _ (by decide)]; exact hm_35
              have hm_148 : M_137 60 = some (cModel ad 0 n on ao vr sn tp pt zs bg fa) := by rw [eM_140, va_up_ne _ _ (by decide)]; exact hm_24
              have hm_149 : M_137 74 = some (aI G 120 (upd s1 j (-1))) := by rw [eM_140]; exact va_up_self _ _ _
              have hF_150 : ∀ j : Nat, j ≠ 60 → j ≠ 74 → M_137 j = M j := fun j q0 q1 => by rw [eM_140, va_up_ne _ _ q1]; exact hF_27 j q0 q1
              refine lv_iinc (v := nI (j + 1)) (lv' := [(3, .int (nI (j + 1))), (0, .ref (ad 60)), (1, .int (nI q)), (2, .int d)]) hx hb dX10_strike_55 hl (k := 3) rfl (nI_add j 1) (by decide) rfl (fun ls hl => ?_)
              refine lv_goto (tgt := 31) hx hb dX10_strike_58 (by decide) ?_
              exact ih_28 (j + 1) (upd s1 j (-1)) M_137 H_138 locs_139 ls (by omega) (by omega) (lt_s2 (fun l9 h9 => (up_ne _ _ (by omega)).trans (hs1 l9 h9)) (by rw [up_self, if_neg (by omega)])) hI hm_148 hm_149 (fun j q0 q1 => hF_150 j q0 q1) (lv_sub hl [1, 2, 3, 0] rfl)
            · -- 46: nI j eq
              have c_136 : j = q := (nI_eq (a := j) (b := q) (by omega) (by omega)).mp (c_136)
              refine lv_iload_n hx hb dX10_strike_49 rfl (lv_at hl 2 rfl) ?_
              refine lv_goto (tgt := 54) hx hb dX10_strike_50 (by decide) ?_
              refine h_iast (i := j) (x := d) hx hb hI hm_25 (by omega) (by decide) dX10_strike_54 (fun M_151 H_152 locs_153 eM_154 hI => ?_)
              have hm_155 : M_151 65 = some (aI G 120 (nF mk)) := by rw [eM_154, va_up_ne _ _ (by decide)]; exact hm_29
              have hm_156 : M_151 66 = some (aI G 120 mf) := by rw [eM_154, va_up_ne _ _ (by decide)]; exact hm_30
              have hm_157 : M_151 67 = some (aI G 120 mu) := by rw [eM_154, va_up_ne _ _ (by decide)]; exact hm_31
              have hm_158 : M_151 68 = some (aI G 121 (nF mz)) := by rw [eM_154, va_up_ne _ _ (by decide)]; exact hm_32
              have hm_159 : M_151 69 = some (aI G 726 (nF rr)) := by rw [eM_154, va_up_ne _ _ (by decide)]; exact hm_33
              have hm_160 : M_151 70 = some (aI G 726 (nF ee)) := by rw [eM_154, va_up_ne _ _ (by decide)]; exact hm_34
              have hm_161 : M_151 64 = some (aZ G 6 (bF ho)) := by rw [eM_154, va_up_ne _ _ (by decide)]; exact hm_35
              have hm_162 : M_151 60 = some (cModel ad 0 n on ao vr sn tp pt zs bg fa) := by rw [eM_154, va_up_ne _ _ (by decide)]; exact hm_24
              have hm_163 : M_151 74 = some (aI G 120 (upd s1 j d)) := by rw [eM_154]; exact va_up_self _ _ _
              have hF_164 : ∀ j : Nat, j ≠ 60 → j ≠ 74 → M_151 j = M j := fun j q0 q1 => by rw [eM_154, va_up_ne _ _ q1]; exact hF_27 j q0 q1
              refine lv_iinc (v := nI (j + 1)) (lv' := [(3, .int (nI (j + 1))), (0, .ref (ad 60)), (1, .int (nI q)), (2, .int d)]) hx hb dX10_strike_55 hl (k := 3) rfl (nI_add j 1) (by decide) rfl (fun ls hl => ?_)
              refine lv_goto (tgt := 31) hx hb dX10_strike_58 (by decide) ?_
              exact ih_28 (j + 1) (upd s1 j d) M_151 H_152 locs_153 ls (by omega) (by omega) (lt_s2 (fun l9 h9 => (up_ne _ _ (by omega)).trans (hs1 l9 h9)) (by rw [up_self, if_pos (by omega)])) hI hm_162 hm_163 (fun j q0 q1 => hF_164 j q0 q1) (lv_sub hl [1, 2, 3, 0] rfl)
      exact lp31_23 ((n - 0) + 1) 0 s0 M_1 H_2 locs_3 ls (Nat.lt_succ_self _) (by omega) (fun j hj => absurd hj (Nat.not_lt_zero j)) hI hm_5 hm_13 (fun j q0 q1 => hF_14 j q0) (lv_sub hl [1, 2, 3, 0] rfl)
    · -- 24: bI (decide (fm q ≤ d ∧ d ≤ to q)) eq
      have c_22 : decide (fm q ≤ d ∧ d ≤ to q) = false := bI_f (c_22)
      refine lv_iconst (v := nI 0) hx hb dX10_strike_27 (by decide) ?_
      subst hQ
      exact e_Ni hx hb hr rfl hlocks hI ⟨0, mu, s0, rfl, hm_5, hm_8, hm_13, (fun j q0 q1 q2 => hF_14 j q0), ⟨fun h9 => absurd h9.1 (by rw [show decide (fm q ≤ d ∧ d ≤ to q) = false by assumption]; exact Bool.false_ne_true), fun _ => ⟨rfl, fun l9 h9 => (hmr l9 h9).2.2.1⟩⟩⟩ dX10_strike_28

/-- X10_strike -/
abbrev rm_c_X10_strike_a : Room := { frames := 2, cells := 0, slots := 0, locals := 43 }
set_option maxHeartbeats 4000000 in
set_option maxRecDepth 100000 in
theorem c_X10_strike_a (l : Launch) (G : GG) (z : Nat) (ad : Nat → Nat) (M : Mem) {th : Nat} {on : Nat} {ao : Nat} {vr : Nat} {sn : Nat} {tp : Nat} {pt : Nat} {zs : Nat} {bg : Nat} {fa : Int32} {n : Nat} {x0 : Int32} {x1 : Int32} (h60 : M 60 = some (cModel ad th n on ao vr sn tp pt zs bg fa)) (hbad : x0 < 0 ∨ ¬ x0 < nI n) (hn : n ≤ 120) : Met l yX10_strike wsX10_strike rm_c_X10_strike_a (Pr G z ad M [.ref (ad 60), .int x0, .int x1]) (Ni G z ad (fun (r : Int32) (M' : Mem) => r = nI 0 ∧ M' 60 = some (cModel ad 1 n on ao vr sn tp pt zs bg fa) ∧ (∀ j : Nat, j ≠ 60 → M' j = M j))) 0 0 (fr z) := by
  refine Met.ofW (cc := cX10_strike) (maxL := 6) (ret := (some .int)) (by decide) rfl ?_
  intro p e s m args below meth c s₁ B hml hv
  obtain ⟨rfl, hv⟩ := hv
  have hI := Iv.entry hv
  have hx := B.exec
  have hb := B.bytes
  have hr := B.returns
  have hts := atoms_spec (ws := wsX10_strike) B.pre
  have hown : s.vm.findClass RX10 = some m.cls := findClass_of_methodNamed B.named
  have hlocks := B.notSynchronized
  have f_3 := hts _ (List.mem_cons_of_mem _ (lwg_of t_1013 rfl))
  have i_RX10 : ∀ w ∈ u_ws RX10 TX10 38, w ∈ wsX10_strike := fun w h => List.mem_cons_of_mem _ (iu_X10 w h)
  have hl := lv_entry ([.ref (ad 60), .int x0, .int x1]) (n := 6) (Nat.le_of_ble_eq_true rfl)
  rw [lg_entry_eq]
  generalize (lg_sl ([.ref (ad 60), .int x0, .int x1]) ++ List.replicate (6 - (lg_sl ([.ref (ad 60), .int x0, .int x1])).length) Slot.unset).toArray = ls at hl ⊢
  have hl : lv_has ls 6 [(0, .ref (ad 60)), (1, .int x0), (2, .int x1)] := hl
  refine lv_aload_n hx hb dX10_strike_0 rfl (lv_at hl 0 rfl) ?_
  refine lv_iconst (v := nI 0) hx hb dX10_strike_1 (by decide) ?_
  refine h_put (C := RX10) (T := TX10) (N := 38) hx hb hts i_RX10 tyX10 tyX10_ok nmX10 hown hI h60 rfl 0 (by decide) f_3 rfl rfl rfl rfl (Nat.le_of_ble_eq_true rfl) dX10_strike_2 (fun M_1 H_2 locs_3 eM_4 hI => ?_)
  have hm_5 : M_1 60 = some (cModel ad 0 n on ao vr sn tp pt zs bg fa) := by rw [eM_4]; exact va_up_self _ _ _
  have hF_6 : ∀ j : Nat, j ≠ 60 → M_1 j = M j := fun j q0 => by rw [eM_4, va_up_ne _ _ q0]
  refine lv_aload_n hx hb dX10_strike_5 rfl (lv_at hl 0 rfl) ?_
  refine lv_aload_n hx hb dX10_strike_6 rfl (lv_at hl 0 rfl) ?_
  refine lv_iload_n hx hb dX10_strike_7 rfl (lv_at hl 1 rfl) ?_
  refine k_Ri (va_runV (As := [.int x0]) (rest := [.ref (ad 60)]) ⟨hx, hb, hml, hown, hts⟩ (c_X10_noLine_1 l G z ad M_1 (th := 0) (ln := n) (on := on) (ao := ao) (vr := vr) (sn := sn) (tp := tp) (pt := pt) (zs := zs) (bg := bg) (fa := fa) (x := x0) hm_5 hbad (by omega)) (cwV 1 hts (gV (lwg_of t_1157 rfl) (lwg_of t_1159 rfl) (lwg_of ts_24 rfl) (lwg_of t_13 rfl) (lwg_of t_1160 rfl)) rfl rfl rfl (by decide +kernel) ⟨Nat.le_of_ble_eq_true rfl, Nat.le_of_ble_eq_true rfl⟩) (hI.preV hm_5 rfl) rfl rfl hl.1 rfl (lv_room (Nat.le_of_ble_eq_true rfl)) dX10_strike_8 ⟨Nat.le_of_ble_eq_true rfl, Nat.le_of_ble_eq_true rfl⟩) (fun _ h => h) (fun r_7 hp_8 => ?_)
  rw [hp_8]
  refine lv_iconst (v := nI 1) hx hb dX10_strike_11 (by decide) ?_
  refine k_Ni (va_runV (As := [.int (nI 1), .int (nI 1)]) (rest := []) ⟨hx, hb, hml, hown, hts⟩ (c_X10_throwsIf_1 l G z ad M_1 (th := 0) (ln := n) (on := on) (ao := ao) (vr := vr) (sn := sn) (tp := tp) (pt := pt) (zs := zs) (bg := bg) (fa := fa) (c0 := 1) hm_5) (cwV 2 hts (gV (lwg_of t_1141 rfl) (lwg_of t_1143 rfl) (lwg_of ts_23 rfl) (lwg_of t_13 rfl) (lwg_of t_1144 rfl)) rfl rfl rfl (by decide +kernel) ⟨Nat.le_of_ble_eq_true rfl, Nat.le_of_ble_eq_true rfl⟩) (hI.preV hm_5 rfl) rfl rfl hl.1 rfl (lv_room (Nat.le_of_ble_eq_true rfl)) dX10_strike_12 ⟨Nat.le_of_ble_eq_true rfl, Nat.le_of_ble_eq_true rfl⟩) hI (fun r_9 M_11 H_12 locs_13 hp_10 hI => ?_)
  obtain ⟨hr_14, hm_15, hF_16⟩ := hp_10
  have hF_17 : ∀ j : Nat, j ≠ 60 → M_11 j = M j := fun j q0 => (hF_16 j q0).trans (hF_6 j q0)
  rw [hr_14]
  refine lv_if_ne (tgt := 27) hx hb dX10_strike_15 (by decide) (fun c_18 => ?_) (fun c_18 => ?_)
  · -- 15: nI 1 ne
    refine lv_iconst (v := nI 0) hx hb dX10_strike_27 (by decide) ?_
    exact e_Ni hx hb hr rfl hlocks hI ⟨rfl, hm_15, (fun j q0 => hF_17 j q0)⟩ dX10_strike_28
  · -- 15: nI 1 eq
    exact absurd c_18 (by decide)
