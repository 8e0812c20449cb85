/-- the place of an atom's truth for what is given -/
def pl3 (i : Nat) (gv : Nat → Option Nat) : Nat := ((i * 40 + (gv 0).getD 0) * 40 + (gv 1).getD 0) * 40 + (gv 2).getD 0
/-- what the parts p, p + 1 .. (r of them) of atom i make true over line q -/
def ftS (sz : Nat → Nat) (rl en : Nat → Nat → Nat) (lst ro te : Nat → Nat) (i q : Nat) : Nat → Nat → (Nat → Option Nat) → Nat → Prop
  | 0, _, gv, x => x = pl3 i gv
  | r + 1, p, gv, x => ∃ j, j < sz q ∧ rl q j = ro (i * 4 + p) ∧ en q j < 40 ∧ (te (i * 4 + p) < 40 ∧ lst (te (i * 4 + p)) = lst (en q j) ∧ ftS sz rl en lst ro te i q r (p + 1) gv x ∨ 40 ≤ te (i * 4 + p) ∧ (gv (te (i * 4 + p) - 40) = none ∨ gv (te (i * 4 + p) - 40) = some (lst (en q j))) ∧ ftS sz rl en lst ro te i q r (p + 1) (va_up gv (te (i * 4 + p) - 40) (some (lst (en q j)))) x)
def ftJ (sz : Nat → Nat) (rl en : Nat → Nat → Nat) (lst ro te : Nat → Nat) (i q r p : Nat) (gv : Nat → Option Nat) (x j : Nat) : Prop := rl q j = ro (i * 4 + p) ∧ en q j < 40 ∧ (te (i * 4 + p) < 40 ∧ lst (te (i * 4 + p)) = lst (en q j) ∧ ftS sz rl en lst ro te i q r (p + 1) gv x ∨ 40 ≤ te (i * 4 + p) ∧ (gv (te (i * 4 + p) - 40) = none ∨ gv (te (i * 4 + p) - 40) = some (lst (en q j))) ∧ ftS sz rl en lst ro te i q r (p + 1) (va_up gv (te (i * 4 + p) - 40) (some (lst (en q j)))) x)
theorem fj_no {tr trx : Nat → Bool} {P : Nat → Nat → Prop} {j : Nat} (h : ∀ x, trx x = true ↔ tr x = true ∨ ∃ k, k < j ∧ P x k) (hn : ∀ x, ¬ P x j) : ∀ x, trx x = true ↔ tr x = true ∨ ∃ k, k < j + 1 ∧ P x k := fun x => by
  rw [h x]
  constructor
  · rintro (a | ⟨k, b, c⟩)
    · exact Or.inl a
    · exact Or.inr ⟨k, by omega, c⟩
  · rintro (a | ⟨k, b, c⟩)
    · exact Or.inl a
    · by_cases e : k = j
      · subst e; exact absurd c (hn x)
      · exact Or.inr ⟨k, by omega, c⟩
theorem fj_yes {tr trx tr2 : Nat → Bool} {P : Nat → Nat → Prop} {F : Nat → Prop} {j : Nat} (h : ∀ x, trx x = true ↔ tr x = true ∨ ∃ k, k < j ∧ P x k) (h2 : ∀ x, tr2 x = true ↔ trx x = true ∨ F x) (hF : ∀ x, P x j ↔ F x) : ∀ x, tr2 x = true ↔ tr x = true ∨ ∃ k, k < j + 1 ∧ P x k := fun x => by
  rw [h2 x, h x, ← hF x]
  constructor
  · rintro ((a | ⟨k, b, c⟩) | a)
    · exact Or.inl a
    · exact Or.inr ⟨k, by omega, c⟩
    · exact Or.inr ⟨j, by omega, a⟩
  · rintro (a | ⟨k, b, c⟩)
    · exact Or.inl (Or.inl a)
    · by_cases e : k = j
      · subst e; exact Or.inr c
      · exact Or.inl (Or.inr ⟨k, by omega, c⟩)
theorem gz_lt {gv : Nat → Option Nat} {v : Nat} (h : ∀ t, gv v = some t → t < 40) : (gv v).getD 0 < 40 := by
  cases h1 : gv v with
  | none => exact Nat.zero_lt_succ 39
  | some t => exact h t h1
theorem gz_mx {o : Option Nat} (h : o.getD 0 < 40) : (if nI 0 < oI o then oI o else nI 0) = nI (o.getD 0) := by
  cases o with
  | none => exact if_neg (by decide)
  | some t =>
    show (if nI 0 < nI t then nI t else nI 0) = nI t
    have ht : t < 40 := h
    by_cases e : 0 < t
    · exact if_pos ((nI_ltI (by omega) (by omega)).mpr e)
    · rw [show t = 0 by omega]; rfl
theorem o_some {o : Option Nat} (h : ¬ o = none) : oI o = nI (o.getD 0) := by
  cases o with
  | none => exact absurd rfl h
  | some t => rfl
theorem o_getD {o : Option Nat} {t : Nat} (h : o = some t) : o.getD 0 = t := by rw [h]; rfl
theorem o_ofD {o : Option Nat} {t : Nat} (h : ¬ o = none) (h1 : o.getD 0 = t) : o = some t := by
  cases o with
  | none => exact absurd rfl h
  | some u => exact congrArg some h1
theorem gv_up {gv : Nat → Option Nat} {k u : Nat} (h : ∀ v, v < 3 → ∀ t, gv v = some t → t < 40) (hu : u < 40) : ∀ v, v < 3 → ∀ t, va_up gv k (some u) v = some t → t < 40 := fun v hv t ht => by
  by_cases e : v = k
  · subst e; rw [va_up_self] at ht; cases ht; exact hu
  · rw [va_up_ne _ _ e] at ht; exact h v hv t ht
theorem va_back {α : Type} (f : Nat → α) (k : Nat) (a : α) : va_up (va_up f k a) k (f k) = f := by
  funext j
  by_cases e : j = k
  · subst e; rw [va_up_self]
  · rw [va_up_ne _ _ e, va_up_ne _ _ e]
theorem tm_neg : ∀ t, t < 43 → 40 ≤ t → tmI t < 0 := by decide +kernel
theorem fu_1 {tr : Nat → Bool} {k : Nat} : ∀ x, va_up tr k true x = true ↔ tr x = true ∨ x = k := fun x => by
  by_cases e : x = k
  · subst e; rw [va_up_self]; exact ⟨fun _ => Or.inr rfl, fun _ => rfl⟩
  · rw [va_up_ne _ _ e]; exact ⟨Or.inl, fun h => h.elim id (fun h => absurd h e)⟩

/-- X10_fits -/
abbrev rm_c_X10_fits_0 : Room := { frames := 1, cells := 0, slots := 0, locals := 30 }
set_option maxHeartbeats 4000000 in
set_option maxRecDepth 100000 in
theorem c_X10_fits_0 (l : Launch) (G : GG) (z : Nat) (ad : Nat → Nat) (M : Mem) {th : Nat} {ln : Nat} {on : Nat} {ao : Nat} {vr : Nat} {sn : Nat} {tp : Nat} {pt : Nat} {zs : Nat} {bg : Nat} {fa : Int32} {n : Nat} {kd : Nat → Nat} {fm : Nat → Int32} {to : Nat → Int32} {sz : Nat → Nat} {rl : Nat → Nat → Nat} {en : Nat → Nat → Nat} {mk : Nat → Nat} {mf : Nat → Int32} {mu : Nat → Int32} {mz : Nat → Nat} {rr : Nat → Nat} {ee : Nat → Nat} {lst : Nat → Nat} {ap : Nat → Nat} {pr : Nat → Int32} {pf : Nat → Int32} {ro : Nat → Nat} {te : Nat → Nat} {tr : Nat → Bool} {gv : Nat → Option Nat} {i : Nat} {q : Nat} {p9 : Nat} (h60 : M 60 = some (cModel ad th ln on ao vr sn tp pt zs bg fa)) (h68 : M 68 = some (aI G 121 (nF mz))) (h69 : M 69 = some (aI G 726 (nF rr))) (h70 : M 70 = some (aI G 726 (nF ee))) (h71 : M 71 = some (aI G 40 (nF lst))) (h77 : M 77 = some (aI G 12 (nF ap))) (h78 : M 78 = some (aI G 48 pr)) (h79 : M 79 = some (aI G 48 pf)) (h82 : M 82 = some (aZ G 384000 (bF tr))) (h83 : M 83 = some (aI G 3 (oF gv))) (hw : LSw n kd sz rl en) (hmr : MRel n kd fm to sz rl en mk mf mu mz rr ee) (hq : q < n) (hi6 : i < 6) (hap : ap i ≤ 4) (hpp : ∀ p8, p8 < ap i → (pr (4 * i + p8) = nI (ro (i * 4 + p8)) ∧ ro (i * 4 + p8) < 6) ∧ te (i * 4 + p8) < 43 ∧ pf (4 * i + p8) = tmI (te (i * 4 + p8))) (hgv : ∀ v, v < 3 → ∀ t, gv v = some t → t < 40) (hlst : ∀ u, u < 40 → lst u < 40) (hpr : p9 + 0 = ap i) : Met l yX10_fits wsX10_fits rm_c_X10_fits_0 (Pr G z ad M [.ref (ad 60), .int (nI i), .int (nI q), .int (nI p9)]) (Nv G z ad (fun (M' : Mem) => ∃ tr2 : Nat → Bool, M' 82 = some (aZ G 384000 (bF tr2)) ∧ M' 83 = some (aI G 3 (oF gv)) ∧ (∀ j : Nat, j ≠ 82 → j ≠ 83 → M' j = M j) ∧ (∀ x, tr2 x = true ↔ tr x = true ∨ ftS sz rl en lst ro te i q 0 p9 gv x))) 0 0 (fr z) := by
  refine Met.ofW (cc := cX10_fits) (maxL := 9) (ret := none) (by decide) rfl ?_
  intro p e s m args below meth c s₁ B hml hv
  obtain ⟨rfl, hv⟩ := hv
  have hI := Iv.entry hv
  have hx := B.exec
  have hb := B.bytes
  have hr := B.returns
  have hts := atoms_spec (ws := wsX10_fits) B.pre
  have hown : s.vm.findClass RX10 = some m.cls := findClass_of_methodNamed B.named
  have hlocks := B.notSynchronized
  have i_RX10 : ∀ w ∈ u_ws RX10 TX10 38, w ∈ wsX10_fits := fun w h => List.mem_cons_of_mem _ (iu_X10 w h)
  have f_63 := hts _ (List.mem_cons_of_mem _ (lwg_of t_1032 rfl))
  have f_83 := hts _ (List.mem_cons_of_mem _ (lwg_of t_1045 rfl))
  have f_86 := hts _ (List.mem_cons_of_mem _ (lwg_of t_1046 rfl))
  have m_146 := hts _ (List.mem_cons_of_mem _ (lwg_of t_1192 rfl))
  have s_mmax := hts _ (List.mem_cons_of_mem _ (lwg_of t_737 rfl))
  have s_mi := hts _ (List.mem_cons_of_mem _ (lwg_of t_14 rfl))
  have s_mcmax := hts _ (List.mem_cons_of_mem _ (lwg_of t_738 rfl))
  have hl := lv_entry ([.ref (ad 60), .int (nI i), .int (nI q), .int (nI p9)]) (n := 9) (Nat.le_of_ble_eq_true rfl)
  rw [lg_entry_eq]
  generalize (lg_sl ([.ref (ad 60), .int (nI i), .int (nI q), .int (nI p9)]) ++ List.replicate (9 - (lg_sl ([.ref (ad 60), .int (nI i), .int (nI q), .int (nI p9)])).length) Slot.unset).toArray = ls at hl ⊢
  have hl : lv_has ls 9 [(0, .ref (ad 60)), (1, .int (nI i)), (2, .int (nI q)), (3, .int (nI p9))] := hl
  have hg0 := gz_lt (hgv 0 (by decide))
  have hg1 := gz_lt (hgv 1 (by decide))
  have hg2 := gz_lt (hgv 2 (by decide))
  refine lv_iload_n hx hb dX10_fits_0 rfl (lv_at hl 3 rfl) ?_
  refine lv_aload_n hx hb dX10_fits_1 rfl (lv_at hl 0 rfl) ?_
  refine h_get (C := RX10) (T := TX10) (N := 38) hx hb hts i_RX10 hown hI h60 rfl 19 (by decide) f_63 rfl rfl dX10_fits_2 ?_
  refine lv_iload_n hx hb dX10_fits_5 rfl (lv_at hl 1 rfl) ?_
  refine h_iald (i := i) hx hb hI h77 (by omega) (by decide) dX10_fits_6 ?_
  refine lv_icmp_ne (tgt := 51) hx hb dX10_fits_7 (by decide) (fun c_1 => ?_) (fun c_1 => ?_)
  · -- 7: nI p9 ne
    have c_1 : p9 ≠ ap i := by have h := mt (nI_eq (a := p9) (b := ap i) (by omega) (by omega)).mpr c_1; omega
    omega
  · -- 7: nI p9 eq
    have c_1 : p9 = ap i := (nI_eq (a := p9) (b := ap i) (by omega) (by omega)).mp (c_1)
    refine lv_aload_n hx hb dX10_fits_10 rfl (lv_at hl 0 rfl) ?_
    refine h_get (C := RX10) (T := TX10) (N := 38) hx hb hts i_RX10 hown hI h60 rfl 32 (by decide) f_83 rfl rfl dX10_fits_11 ?_
    refine lv_iload_n hx hb dX10_fits_14 rfl (lv_at hl 1 rfl) ?_
    refine lv_iconst (v := nI 0) hx hb dX10_fits_15 (by decide) ?_
    refine lv_aload_n hx hb dX10_fits_16 rfl (lv_at hl 0 rfl) ?_
    refine h_get (C := RX10) (T := TX10) (N := 38) hx hb hts i_RX10 hown hI h60 rfl 33 (by decide) f_86 rfl rfl dX10_fits_17 ?_
    refine lv_iconst (v := nI 0) hx hb dX10_fits_20 (by decide) ?_
    refine h_iald (i := 0) hx hb hI h83 (by omega) (by decide) dX10_fits_21 ?_
    refine va_mmax hx hb (by rw [hml]; exact hl.1.symm) hown m_146 s_mmax s_mi s_mcmax (Nat.le_of_ble_eq_true rfl) (Nat.le_of_ble_eq_true rfl) (Nat.le_of_ble_eq_true rfl) (Nat.le_of_ble_eq_true rfl) dX10_fits_22 ?_
    refine n_eq (show _ = nI ((gv 0).getD 0) from gz_mx hg0) ?_
    refine lv_iconst (v := nI 0) hx hb dX10_fits_25 (by decide) ?_
    refine lv_aload_n hx hb dX10_fits_26 rfl (lv_at hl 0 rfl) ?_
    refine h_get (C := RX10) (T := TX10) (N := 38) hx hb hts i_RX10 hown hI h60 rfl 33 (by decide) f_86 rfl rfl dX10_fits_27 ?_
    refine lv_iconst (v := nI 1) hx hb dX10_fits_30 (by decide) ?_
    refine h_iald (i := 1) hx hb hI h83 (by omega) (by decide) dX10_fits_31 ?_
    refine va_mmax hx hb (by rw [hml]; exact hl.1.symm) hown m_146 s_mmax s_mi s_mcmax (Nat.le_of_ble_eq_true rfl) (Nat.le_of_ble_eq_true rfl) (Nat.le_of_ble_eq_true rfl) (Nat.le_of_ble_eq_true rfl) dX10_fits_32 ?_
    refine n_eq (show _ = nI ((gv 1).getD 0) from gz_mx hg1) ?_
    refine lv_iconst (v := nI 0) hx hb dX10_fits_35 (by decide) ?_
    refine lv_aload_n hx hb dX10_fits_36 rfl (lv_at hl 0 rfl) ?_
    refine h_get (C := RX10) (T := TX10) (N := 38) hx hb hts i_RX10 hown hI h60 rfl 33 (by decide) f_86 rfl rfl dX10_fits_37 ?_
    refine lv_iconst (v := nI 2) hx hb dX10_fits_40 (by decide) ?_
    refine h_iald (i := 2) hx hb hI h83 (by omega) (by decide) dX10_fits_41 ?_
    refine va_mmax hx hb (by rw [hml]; exact hl.1.symm) hown m_146 s_mmax s_mi s_mcmax (Nat.le_of_ble_eq_true rfl) (Nat.le_of_ble_eq_true rfl) (Nat.le_of_ble_eq_true rfl) (Nat.le_of_ble_eq_true rfl) dX10_fits_42 ?_
    refine n_eq (show _ = nI ((gv 2).getD 0) from gz_mx hg2) ?_
    refine k_Ri (va_runS (As := [.int (nI i), .int (nI ((gv 0).getD 0)), .int (nI ((gv 1).getD 0)), .int (nI ((gv 2).getD 0))]) (rest := [.ref (ad 82)]) ⟨hx, hb, hml, hown, hts⟩ (c_X10_placeOf l G z ad M (i := i) (a := (gv 0).getD 0) (b := (gv 1).getD 0) (c0 := (gv 2).getD 0) ) (va_cwS 4 hts (gS (lwg_of t_1335 rfl) (lwg_of t_1336 rfl) (lwg_of t_13 rfl) (lwg_of t_1337 rfl)) rfl rfl rfl (by decide +kernel) ⟨Nat.le_of_ble_eq_true rfl, Nat.le_of_ble_eq_true rfl⟩) hI.preS rfl rfl hl.1 rfl (lv_room (Nat.le_of_ble_eq_true rfl)) dX10_fits_45 ⟨Nat.le_of_ble_eq_true rfl, Nat.le_of_ble_eq_true rfl⟩) (fun _ h => h) (fun r_2 hp_3 => ?_)
    rw [hp_3]
    refine lv_iconst (v := nI 1) hx hb dX10_fits_48 (by decide) ?_
    refine h_zast (i := ((i * 40 + ((gv 0).getD 0)) * 40 + ((gv 1).getD 0)) * 40 + ((gv 2).getD 0)) (x := nI 1) hx hb hI h82 (by omega) (by decide) rfl dX10_fits_49 (fun M_4 H_5 locs_6 eM_7 hI => ?_)
    rw [upd_bF_1] at eM_7
    have hm_8 : M_4 60 = some (cModel ad th ln on ao vr sn tp pt zs bg fa) := by rw [eM_7, va_up_ne _ _ (by decide)]; exact h60
    have hm_9 : M_4 68 = some (aI G 121 (nF mz)) := by rw [eM_7, va_up_ne _ _ (by decide)]; exact h68
    have hm_10 : M_4 69 = some (aI G 726 (nF rr)) := by rw [eM_7, va_up_ne _ _ (by decide)]; exact h69
    have hm_11 : M_4 70 = some (aI G 726 (nF ee)) := by rw [eM_7, va_up_ne _ _ (by decide)]; exact h70
    have hm_12 : M_4 71 = some (aI G 40 (nF lst)) := by rw [eM_7, va_up_ne _ _ (by decide)]; exact h71
    have hm_13 : M_4 77 = some (aI G 12 (nF ap)) := by rw [eM_7, va_up_ne _ _ (by decide)]; exact h77
    have hm_14 : M_4 78 = some (aI G 48 pr) := by rw [eM_7, va_up_ne _ _ (by decide)]; exact h78
    have hm_15 : M_4 79 = some (aI G 48 pf) := by rw [eM_7, va_up_ne _ _ (by decide)]; exact h79
    have hm_16 : M_4 82 = some (aZ G 384000 (bF (va_up tr (((i * 40 + ((gv 0).getD 0)) * 40 + ((gv 1).getD 0)) * 40 + ((gv 2).getD 0)) true))) := by rw [eM_7]; exact va_up_self _ _ _
    have hm_17 : M_4 83 = some (aI G 3 (oF gv)) := by rw [eM_7, va_up_ne _ _ (by decide)]; exact h83
    have hF_18 : ∀ j : Nat, j ≠ 82 → M_4 j = M j := fun j q0 => by rw [eM_7, va_up_ne _ _ q0]
    exact e_Nv hx hb hr hlocks hI ⟨(va_up tr (((i * 40 + ((gv 0).getD 0)) * 40 + ((gv 1).getD 0)) * 40 + ((gv 2).getD 0)) true), hm_16, hm_17, (fun j q0 q1 => hF_18 j q0), fu_1⟩ dX10_fits_50

/-- X10_fits -/
abbrev rm_c_X10_fits_1 : Room := { frames := 2, cells := 0, slots := 0, locals := 58 }
set_option maxHeartbeats 4000000 in
set_option maxRecDepth 100000 in
theorem c_X10_fits_1 (l : Launch) (G : GG) (z : Nat) (ad : Nat → Nat) (M : Mem) {th : Nat} {ln : Nat} {on : Nat} {ao : Nat} {vr : Nat} {sn : Nat} {tp : Nat} {pt : Nat} {zs : Nat} {bg : Nat} {fa : Int32} {n : Nat} {kd : Nat → Nat} {fm : Nat → Int32} {to : Nat → Int32} {sz : Nat → Nat} {rl : Nat → Nat → Nat} {en : Nat → Nat → Nat} {mk : Nat → Nat} {mf : Nat → Int32} {mu : Nat → Int32} {mz : Nat → Nat} {rr : Nat → Nat} {ee : Nat → Nat} {lst : Nat → Nat} {ap : Nat → Nat} {pr : Nat → Int32} {pf : Nat → Int32} {ro : Nat → Nat} {te : Nat → Nat} {tr : Nat → Bool} {gv : Nat → Option Nat} {i : Nat} {q : Nat} {p9 : Nat} (h60 : M 60 = some (cModel ad th ln on ao vr sn tp pt zs bg fa)) (h68 : M 68 = some (aI G 121 (nF mz))) (h69 : M 69 = some (aI G 726 (nF rr))) (h70 : M 70 = some (aI G 726 (nF ee))) (h71 : M 71 = some (aI G 40 (nF lst))) (h77 : M 77 = some (aI G 12 (nF ap))) (h78 : M 78 = some (aI G 48 pr)) (h79 : M 79 = some (aI G 48 pf)) (h82 : M 82 = some (aZ G 384000 (bF tr))) (h83 : M 83 = some (aI G 3 (oF gv))) (hw : LSw n kd sz rl en) (hmr : MRel n kd fm to sz rl en mk mf mu mz rr ee) (hq : q < n) (hi6 : i < 6) (hap : ap i ≤ 4) (hpp : ∀ p8, p8 < ap i → (pr (4 * i + p8) = nI (ro (i * 4 + p8)) ∧ ro (i * 4 + p8) < 6) ∧ te (i * 4 + p8) < 43 ∧ pf (4 * i + p8) = tmI (te (i * 4 + p8))) (hgv : ∀ v, v < 3 → ∀ t, gv v = some t → t < 40) (hlst : ∀ u, u < 40 → lst u < 40) (hpr : p9 + 1 = ap i) : Met l yX10_fits wsX10_fits rm_c_X10_fits_1 (Pr G z ad M [.ref (ad 60), .int (nI i), .int (nI q), .int (nI p9)]) (Nv G z ad (fun (M' : Mem) => ∃ tr2 : Nat → Bool, M' 82 = some (aZ G 384000 (bF tr2)) ∧ M' 83 = some (aI G 3 (oF gv)) ∧ (∀ j : Nat, j ≠ 82 → j ≠ 83 → M' j = M j) ∧ (∀ x, tr2 x = true ↔ tr x = true ∨ ftS sz rl en lst ro te i q 1 p9 gv x))) 0 0 (fr z) := by
  refine Met.ofW (cc := cX10_fits) (maxL := 9) (ret := none) (by decide) rfl ?_
  intro p e s m args below meth c s₁ B hml hv
  obtain ⟨rfl, hv⟩ := hv
  have hI := Iv.entry hv
  have hx := B.exec
  have hb := B.bytes
  have hr := B.returns
  have hts := atoms_spec (ws := wsX10_fits) B.pre
  have hown : s.vm.findClass RX10 = some m.cls := findClass_of_methodNamed B.named
  have hlocks := B.notSynchronized
  have i_RX10 : ∀ w ∈ u_ws RX10 TX10 38, w ∈ wsX10_fits := fun w h => List.mem_cons_of_mem _ (iu_X10 w h)
  have f_63 := hts _ (List.mem_cons_of_mem _ (lwg_of t_1032 rfl))
  have f_69 := hts _ (List.mem_cons_of_mem _ (lwg_of t_1034 rfl))
  have f_36 := hts _ (List.mem_cons_of_mem _ (lwg_of t_1021 rfl))
  have f_39 := hts _ (List.mem_cons_of_mem _ (lwg_of t_1022 rfl))
  have f_66 := hts _ (List.mem_cons_of_mem _ (lwg_of t_1033 rfl))
  have f_42 := hts _ (List.mem_cons_of_mem _ (lwg_of t_1023 rfl))
  have f_45 := hts _ (List.mem_cons_of_mem _ (lwg_of t_1025 rfl))
  have f_86 := hts _ (List.mem_cons_of_mem _ (lwg_of t_1046 rfl))
  have hl := lv_entry ([.ref (ad 60), .int (nI i), .int (nI q), .int (nI p9)]) (n := 9) (Nat.le_of_ble_eq_true rfl)
  rw [lg_entry_eq]
  generalize (lg_sl ([.ref (ad 60), .int (nI i), .int (nI q), .int (nI p9)]) ++ List.replicate (9 - (lg_sl ([.ref (ad 60), .int (nI i), .int (nI q), .int (nI p9)])).length) Slot.unset).toArray = ls at hl ⊢
  have hl : lv_has ls 9 [(0, .ref (ad 60)), (1, .int (nI i)), (2, .int (nI q)), (3, .int (nI p9))] := hl
  refine w_q (fun Q hQ => ?_)
  have hw1 := hw.1
  obtain ⟨hk6, hs6, hje⟩ := hw.2 q hq
  obtain ⟨hmk, hmf, hmt, hmz, hmj⟩ := hmr q hq
  obtain ⟨⟨hpr9, hro6⟩, h43, hpf9⟩ := hpp p9 (by omega)
  refine lv_iload_n hx hb dX10_fits_0 rfl (lv_at hl 3 rfl) ?_
  refine lv_aload_n hx hb dX10_fits_1 rfl (lv_at hl 0 rfl) ?_
  refine h_get (C := RX10) (T := TX10) (N := 38) hx hb hts i_RX10 hown hI h60 rfl 19 (by decide) f_63 rfl rfl dX10_fits_2 ?_
  refine lv_iload_n hx hb dX10_fits_5 rfl (lv_at hl 1 rfl) ?_
  refine h_iald (i := i) hx hb hI h77 (by omega) (by decide) dX10_fits_6 ?_
  refine lv_icmp_ne (tgt := 51) hx hb dX10_fits_7 (by decide) (fun c_1 => ?_) (fun c_1 => ?_)
  · -- 7: nI p9 ne
    have c_1 : p9 ≠ ap i := by have h := mt (nI_eq (a := p9) (b := ap i) (by omega) (by omega)).mpr c_1; omega
    refine lv_aload_n hx hb dX10_fits_51 rfl (lv_at hl 0 rfl) ?_
    refine h_get (C := RX10) (T := TX10) (N := 38) hx hb hts i_RX10 hown hI h60 rfl 21 (by decide) f_69 rfl rfl dX10_fits_52 ?_
    refine lv_iconst (v := nI 4) hx hb dX10_fits_55 (by decide) ?_
    refine lv_iload_n hx hb dX10_fits_56 rfl (lv_at hl 1 rfl) ?_
    refine lv_imul hx hb dX10_fits_57 ?_
    refine n_eq (pk_mul 4 i) ?_
    refine lv_iload_n hx hb dX10_fits_58 rfl (lv_at hl 3 rfl) ?_
    refine lv_iadd hx hb dX10_fits_59 ?_
    refine n_eq (nI_add (4 * i) p9) ?_
    by_cases hc_2 : te (i * 4 + p9) < 40
    · skip
      refine h_iald (i := (4 * i) + p9) hx hb hI h79 (by omega) (by decide) dX10_fits_60 ?_
      refine n_eq (show _ = nI (te (i * 4 + p9)) from hpf9.trans (tm_thing hc_2).symm) ?_
      refine lv_istore (lv' := [(4, .int (nI (te (i * 4 + p9)))), (0, .ref (ad 60)), (1, .int (nI i)), (2, .int (nI q)), (3, .int (nI p9))]) hx hb dX10_fits_61 hl (by decide) rfl (fun ls hl => ?_)
      refine lv_bipush (v := nI 6) hx hb dX10_fits_63 (by decide) ?_
      refine lv_iload_n hx hb dX10_fits_65 rfl (lv_at hl 3 rfl) ?_
      refine lv_imul hx hb dX10_fits_66 ?_
      refine n_eq (pk_mul 6 q) ?_
      refine lv_istore (lv' := [(5, .int (nI (6 * q))), (4, .int (nI (te (i * 4 + p9)))), (0, .ref (ad 60)), (1, .int (nI i)), (2, .int (nI q)), (3, .int (nI p9))]) hx hb dX10_fits_67 hl (by decide) rfl (fun ls hl => ?_)
      have lp69_3 : ∀ (fuel : Nat) (j : Nat) (trx : Nat → Bool) (Mx : Mem) (Hx : Heap) (locsx : List Loc) (ls : Array Slot), (sz q - j) < fuel → (j ≤ sz q) → (∀ x, trx x = true ↔ tr x = true ∨ ∃ j9, j9 < j ∧ ftJ sz rl en lst ro te i q 0 p9 gv x j9) → Iv G z ad Mx s Hx locsx → Mx 82 = some (aZ G 384000 (bF trx)) → Mx 83 = some (aI G 3 (oF gv)) → (∀ j : Nat, j ≠ 82 → j ≠ 83 → Mx j = M j) → lv_has ls 9 [(0, .ref (ad 60)), (1, .int (nI i)), (2, .int (nI q)), (3, .int (nI p9)), (4, .int (nI (te (i * 4 + p9)))), (5, .int (nI (6 * q + j)))] → W p l e (headSpec wsX10_fits rm_c_X10_fits_1).room s m ([.ref (ad 60), .int (nI i), .int (nI q), .int (nI p9)] : List Value).toArray below meth c Hx locsx 0 0 Q (F0 m 69 ls []) := by
        intro fuel
        induction fuel with
        | zero => intro j trx Mx Hx locsx ls hfu hj htr hI hm_4 hm_5 hF_7 hl; exact absurd hfu (Nat.not_lt_zero _)
        | succ fuel ih_8 =>
          intro j trx Mx Hx locsx ls hfu hj htr hI hm_4 hm_5 hF_7 hl
          have hm_9 : Mx 60 = some (cModel ad th ln on ao vr sn tp pt zs bg fa) := by rw [hF_7 60 (by omega) (by omega)]; exact h60
          have hm_10 : Mx 68 = some (aI G 121 (nF mz)) := by rw [hF_7 68 (by omega) (by omega)]; exact h68
          have hm_11 : Mx 69 = some (aI G 726 (nF rr)) := by rw [hF_7 69 (by omega) (by omega)]; exact h69
          have hm_12 : Mx 70 = some (aI G 726 (nF ee)) := by rw [hF_7 70 (by omega) (by omega)]; exact h70
          have hm_13 : Mx 71 = some (aI G 40 (nF lst)) := by rw [hF_7 71 (by omega) (by omega)]; exact h71
          have hm_14 : Mx 77 = some (aI G 12 (nF ap)) := by rw [hF_7 77 (by omega) (by omega)]; exact h77
          have hm_15 : Mx 78 = some (aI G 48 pr) := by rw [hF_7 78 (by omega) (by omega)]; exact h78
          have hm_16 : Mx 79 = some (aI G 48 pf) := by rw [hF_7 79 (by omega) (by omega)]; exact h79
          refine lv_iload hx hb dX10_fits_69 (lv_at hl 5 rfl) ?_
          refine lv_bipush (v := nI 6) hx hb dX10_fits_71 (by decide) ?_
          refine lv_iload_n hx hb dX10_fits_73 rfl (lv_at hl 2 rfl) ?_
          refine lv_imul hx hb dX10_fits_74 ?_
          refine n_eq (pk_mul 6 q) ?_
          refine lv_aload_n hx hb dX10_fits_75 rfl (lv_at hl 0 rfl) ?_
          refine h_get (C := RX10) (T := TX10) (N := 38) hx hb hts i_RX10 hown hI hm_9 rfl 8 (by decide) f_36 rfl rfl dX10_fits_76 ?_
          refine lv_iload_n hx hb dX10_fits_79 rfl (lv_at hl 2 rfl) ?_
          refine h_iald (i := q) hx hb hI hm_10 (by omega) (by decide) dX10_fits_80 ?_
          refine n_eq (show _ = nI (sz q) from congrArg nI hmz) ?_
          refine lv_iadd hx hb dX10_fits_81 ?_
          refine n_eq (nI_add (6 * q) (sz q)) ?_
          refine lv_icmp_ge (tgt := 226) hx hb dX10_fits_82 (by decide) (fun c_17 => ?_) (fun c_17 => ?_)
          · -- 82: nI (6 * q + j) ge
            have c_17 : (6 * q) + (sz q) ≤ 6 * q + j := (nI_leI (a := (6 * q) + (sz q)) (b := 6 * q + j) (by omega) (by omega)).mp (c_17)
            subst hQ
            exact e_Nv hx hb hr hlocks hI ⟨trx, hm_4, hm_5, (fun j q0 q1 => hF_7 j q0 q1), (fun x => by rw [htr x, show j = sz q by omega]; exact Iff.rfl)⟩ dX10_fits_226
          · -- 82: nI (6 * q + j) lt
            have c_17 : 6 * q + j < (6 * q) + (sz q) := by have h := mt (nI_leI (a := (6 * q) + (sz q)) (b := 6 * q + j) (by omega) (by omega)).mpr c_17; omega
            obtain ⟨hrj, hej⟩ := hmj j (by omega)
            obtain ⟨hr6, he4⟩ := hje j (by omega)
            refine lv_aload_n hx hb dX10_fits_85 rfl (lv_at hl 0 rfl) ?_
            refine h_get (C := RX10) (T := TX10) (N := 38) hx hb hts i_RX10 hown hI hm_9 rfl 9 (by decide) f_39 rfl rfl dX10_fits_86 ?_
            refine lv_iload hx hb dX10_fits_89 (lv_at hl 5 rfl) ?_
            refine h_iald (i := 6 * q + j) hx hb hI hm_11 (by omega) (by decide) dX10_fits_91 ?_
            refine n_eq (show _ = nI (rl q j) from congrArg nI hrj) ?_
            refine lv_aload_n hx hb dX10_fits_92 rfl (lv_at hl 0 rfl) ?_
            refine h_get (C := RX10) (T := TX10) (N := 38) hx hb hts i_RX10 hown hI hm_9 rfl 20 (by decide) f_66 rfl rfl dX10_fits_93 ?_
            refine lv_iconst (v := nI 4) hx hb dX10_fits_96 (by decide) ?_
            refine lv_iload_n hx hb dX10_fits_97 rfl (lv_at hl 1 rfl) ?_
            refine lv_imul hx hb dX10_fits_98 ?_
            refine n_eq (pk_mul 4 i) ?_
            refine lv_iload_n hx hb dX10_fits_99 rfl (lv_at hl 3 rfl) ?_
            refine lv_iadd hx hb dX10_fits_100 ?_
            refine n_eq (nI_add (4 * i) p9) ?_
            refine h_iald (i := (4 * i) + p9) hx hb hI hm_15 (by omega) (by decide) dX10_fits_101 ?_
            refine n_eq (show _ = nI (ro (i * 4 + p9)) from hpr9) ?_
            refine lv_icmp_ne (tgt := 220) hx hb dX10_fits_102 (by decide) (fun c_18 => ?_) (fun c_18 => ?_)
            · -- 102: nI (rl q j) ne
              have c_18 : rl q j ≠ ro (i * 4 + p9) := by have h := mt (nI_eq (a := rl q j) (b := ro (i * 4 + p9)) (by omega) (by omega)).mpr c_18; omega
              refine lv_iinc (v := nI (6 * q + j + 1)) (lv' := [(5, .int (nI (6 * q + j + 1))), (0, .ref (ad 60)), (1, .int (nI i)), (2, .int (nI q)), (3, .int (nI p9)), (4, .int (nI (te (i * 4 + p9))))]) hx hb dX10_fits_220 hl (k := 5) rfl (nI_add (6 * q + j) 1) (by decide) rfl (fun ls hl => ?_)
              refine lv_goto (tgt := 69) hx hb dX10_fits_223 (by decide) ?_
              exact ih_8 (j + 1) trx Mx Hx locsx ls (by omega) (by omega) (fj_no htr (fun x h9 => absurd h9.1 (by assumption))) hI hm_4 hm_5 (fun j q0 q1 => hF_7 j q0 q1) (lv_sub hl [1, 2, 3, 4, 5, 0] rfl)
            · -- 102: nI (rl q j) eq
              have c_18 : rl q j = ro (i * 4 + p9) := (nI_eq (a := rl q j) (b := ro (i * 4 + p9)) (by omega) (by omega)).mp (c_18)
              refine lv_aload_n hx hb dX10_fits_105 rfl (lv_at hl 0 rfl) ?_
              refine h_get (C := RX10) (T := TX10) (N := 38) hx hb hts i_RX10 hown hI hm_9 rfl 10 (by decide) f_42 rfl rfl dX10_fits_106 ?_
              refine lv_iload hx hb dX10_fits_109 (lv_at hl 5 rfl) ?_
              refine h_iald (i := 6 * q + j) hx hb hI hm_12 (by omega) (by decide) dX10_fits_111 ?_
              refine n_eq (show _ = nI (en q j) from congrArg nI hej) ?_
              refine lv_bipush (v := nI 40) hx hb dX10_fits_112 (by decide) ?_
              refine lv_icmp_lt (tgt := 120) hx hb dX10_fits_114 (by decide) (fun c_19 => ?_) (fun c_19 => ?_)
              · -- 114: nI (en q j) lt
                have c_19 : en q j < 40 := (nI_ltI (a := en q j) (b := 40) (by omega) (by omega)).mp (c_19)
                have hle := hlst (en q j) (by omega)
                refine lv_aload_n hx hb dX10_fits_120 rfl (lv_at hl 0 rfl) ?_
                refine h_get (C := RX10) (T := TX10) (N := 38) hx hb hts i_RX10 hown hI hm_9 rfl 12 (by decide) f_45 rfl rfl dX10_fits_121 ?_
                refine lv_aload_n hx hb dX10_fits_124 rfl (lv_at hl 0 rfl) ?_
                refine h_get (C := RX10) (T := TX10) (N := 38) hx hb hts i_RX10 hown hI hm_9 rfl 10 (by decide) f_42 rfl rfl dX10_fits_125 ?_
                refine lv_iload hx hb dX10_fits_128 (lv_at hl 5 rfl) ?_
                refine h_iald (i := 6 * q + j) hx hb hI hm_12 (by omega) (by decide) dX10_fits_130 ?_
                refine n_eq (show _ = nI (en q j) from congrArg nI hej) ?_
                refine h_iald (i := en q j) hx hb hI hm_13 (by omega) (by decide) dX10_fits_131 ?_
                refine lv_istore (lv' := [(6, .int (nI (lst (en q j)))), (0, .ref (ad 60)), (1, .int (nI i)), (2, .int (nI q)), (3, .int (nI p9)), (4, .int (nI (te (i * 4 + p9)))), (5, .int (nI (6 * q + j)))]) hx hb dX10_fits_132 hl (by decide) rfl (fun ls hl => ?_)
                refine lv_iload hx hb dX10_fits_134 (lv_at hl 5 rfl) ?_
                refine lv_if_lt (tgt := 163) hx hb dX10_fits_136 (by decide) (fun c_20 => ?_) (fun c_20 => ?_)
                · -- 136: nI (te (i * 4 + p9)) lt
                  have c_20 : te (i * 4 + p9) < 0 := (nI_ltI (a := te (i * 4 + p9)) (b := 0) (by omega) (by omega)).mp (c_20)
                  omega
                · -- 136: nI (te (i * 4 + p9)) ge
                  have c_20 : 0 ≤ te (i * 4 + p9) := by have h := mt (nI_ltI (a := te (i * 4 + p9)) (b := 0) (by omega) (by omega)).mpr c_20; omega
                  have hlt9 := hlst (te (i * 4 + p9)) (by omega)
                  refine lv_aload_n hx hb dX10_fits_139 rfl (lv_at hl 1 rfl) ?_
                  refine h_get (C := RX10) (T := TX10) (N := 38) hx hb hts i_RX10 hown hI hm_9 rfl 12 (by decide) f_45 rfl rfl dX10_fits_140 ?_
                  refine lv_iload hx hb dX10_fits_143 (lv_at hl 5 rfl) ?_
                  refine h_iald (i := te (i * 4 + p9)) hx hb hI hm_13 (by omega) (by decide) dX10_fits_145 ?_
                  refine lv_iload hx hb dX10_fits_146 (lv_at hl 0 rfl) ?_
                  refine lv_icmp_ne (tgt := 220) hx hb dX10_fits_148 (by decide) (fun c_21 => ?_) (fun c_21 => ?_)
                  · -- 148: nI (lst (te (i * 4 + p9))) ne
                    have c_21 : lst (te (i * 4 + p9)) ≠ lst (en q j) := by have h := mt (nI_eq (a := lst (te (i * 4 + p9))) (b := lst (en q j)) (by omega) (by omega)).mpr c_21; omega
                    refine lv_iinc (v := nI (6 * q + j + 1)) (lv' := [(5, .int (nI (6 * q + j + 1))), (6, .int (nI (lst (en q j)))), (0, .ref (ad 60)), (1, .int (nI i)), (2, .int (nI q)), (3, .int (nI p9)), (4, .int (nI (te (i * 4 + p9))))]) hx hb dX10_fits_220 hl (k := 6) rfl (nI_add (6 * q + j) 1) (by decide) rfl (fun ls hl => ?_)
                    refine lv_goto (tgt := 69) hx hb dX10_fits_223 (by decide) ?_
                    exact ih_8 (j + 1) trx Mx Hx locsx ls (by omega) (by omega) (fj_no htr (fun x h9 => h9.2.2.elim (fun g9 => absurd g9.2.1 (by assumption)) (fun g9 => absurd g9.1 (by omega)))) hI hm_4 hm_5 (fun j q0 q1 => hF_7 j q0 q1) (lv_sub hl [2, 3, 4, 5, 6, 0] rfl)
                  · -- 148: nI (lst (te (i * 4 + p9))) eq
                    have c_21 : lst (te (i * 4 + p9)) = lst (en q j) := (nI_eq (a := lst (te (i * 4 + p9))) (b := lst (en q j)) (by omega) (by omega)).mp (c_21)
                    refine lv_aload_n hx hb dX10_fits_151 rfl (lv_at hl 1 rfl) ?_
                    refine lv_iload_n hx hb dX10_fits_152 rfl (lv_at hl 2 rfl) ?_
                    refine lv_iload_n hx hb dX10_fits_153 rfl (lv_at hl 3 rfl) ?_
                    refine lv_iload_n hx hb dX10_fits_154 rfl (lv_at hl 4 rfl) ?_
                    refine lv_iconst (v := nI 1) hx hb dX10_fits_155 (by decide) ?_
                    refine lv_iadd hx hb dX10_fits_156 ?_
                    refine n_eq (nI_add p9 1) ?_
                    refine k_Nv (va_runV (As := [.int (nI i), .int (nI q), .int (nI (p9 + 1))]) (rest := []) ⟨hx, hb, hml, hown, hts⟩ (c_X10_fits_0 l G z ad Mx (th := th) (ln := ln) (on := on) (ao := ao) (vr := vr) (sn := sn) (tp := tp) (pt := pt) (zs := zs) (bg := bg) (fa := fa) (n := n) (kd := kd) (fm := fm) (to := to) (sz := sz) (rl := rl) (en := en) (mk := mk) (mf := mf) (mu := mu) (mz := mz) (rr := rr) (ee := ee) (lst := lst) (ap := ap) (pr := pr) (pf := pf) (ro := ro) (te := te) (tr := trx) (gv := gv) (i := i) (q := q) (p9 := p9 + 1) hm_9 hm_10 hm_11 hm_12 hm_13 hm_14 hm_15 hm_16 hm_4 hm_5 hw hmr (by omega) (by omega) (by omega) hpp hgv hlst (by omega)) (cwV 3 hts (gV (lwg_of t_1331 rfl) (lwg_of t_1333 rfl) (lwg_of ts_41 rfl) (lwg_of t_13 rfl) (lwg_of t_1334 rfl)) rfl rfl rfl (by decide +kernel) ⟨Nat.le_of_ble_eq_true rfl, Nat.le_of_ble_eq_true rfl⟩) (hI.preV hm_9 rfl) rfl rfl hl.1 rfl (lv_room (Nat.le_of_ble_eq_true rfl)) dX10_fits_157 ⟨Nat.le_of_ble_eq_true rfl, Nat.le_of_ble_eq_true rfl⟩) hI (fun M_24 H_25 locs_26 hp_23 hI => ?_)
                    obtain ⟨tr2_31, hm_27, hm_28, hF_29, hP_30⟩ := hp_23
                    have hm_32 : M_24 60 = some (cModel ad th ln on ao vr sn tp pt zs bg fa) := by rw [hF_29 60 (by omega) (by omega)]; exact hm_9
                    have hm_33 : M_24 68 = some (aI G 121 (nF mz)) := by rw [hF_29 68 (by omega) (by omega)]; exact hm_10
                    have hm_34 : M_24 69 = some (aI G 726 (nF rr)) := by rw [hF_29 69 (by omega) (by omega)]; exact hm_11
                    have hm_35 : M_24 70 = some (aI G 726 (nF ee)) := by rw [hF_29 70 (by omega) (by omega)]; exact hm_12
                    have hm_36 : M_24 71 = some (aI G 40 (nF lst)) := by rw [hF_29 71 (by omega) (by omega)]; exact hm_13
                    have hm_37 : M_24 77 = some (aI G 12 (nF ap)) := by rw [hF_29 77 (by omega) (by omega)]; exact hm_14
                    have hm_38 : M_24 78 = some (aI G 48 pr) := by rw [hF_29 78 (by omega) (by omega)]; exact hm_15
                    have hm_39 : M_24 79 = some (aI G 48 pf) := by rw [hF_29 79 (by omega) (by omega)]; exact hm_16
                    have hF_40 : ∀ j : Nat, j ≠ 82 → j ≠ 83 → M_24 j = M j := fun j q0 q1 => (hF_29 j q0 q1).trans (hF_7 j q0 q1)
                    refine lv_goto (tgt := 220) hx hb dX10_fits_160 (by decide) ?_
                    refine lv_iinc (v := nI (6 * q + j + 1)) (lv' := [(5, .int (nI (6 * q + j + 1))), (6, .int (nI (lst (en q j)))), (0, .ref (ad 60)), (1, .int (nI i)), (2, .int (nI q)), (3, .int (nI p9)), (4, .int (nI (te (i * 4 + p9))))]) hx hb dX10_fits_220 hl (k := 6) rfl (nI_add (6 * q + j) 1) (by decide) rfl (fun ls hl => ?_)
                    refine lv_goto (tgt := 69) hx hb dX10_fits_223 (by decide) ?_
                    exact ih_8 (j + 1) tr2_31 M_24 H_25 locs_26 ls (by omega) (by omega) (fj_yes htr hP_30 (fun x => ⟨fun h9 => h9.2.2.elim (fun g9 => g9.2.2) (fun g9 => absurd g9.1 (by omega)), fun f9 => ⟨by assumption, by assumption, Or.inl ⟨by omega, by assumption, f9⟩⟩⟩)) hI hm_27 hm_28 (fun j q0 q1 => hF_40 j q0 q1) (lv_sub hl [2, 3, 4, 5, 6, 0] rfl)
              · -- 114: nI (en q j) ge
                have c_19 : 40 ≤ en q j := by have h := mt (nI_ltI (a := en q j) (b := 40) (by omega) (by omega)).mpr c_19; omega
                refine lv_goto (tgt := 220) hx hb dX10_fits_117 (by decide) ?_
                refine lv_iinc (v := nI (6 * q + j + 1)) (lv' := [(5, .int (nI (6 * q + j + 1))), (0, .ref (ad 60)), (1, .int (nI i)), (2, .int (nI q)), (3, .int (nI p9)), (4, .int (nI (te (i * 4 + p9))))]) hx hb dX10_fits_220 hl (k := 5) rfl (nI_add (6 * q + j) 1) (by decide) rfl (fun ls hl => ?_)
                refine lv_goto (tgt := 69) hx hb dX10_fits_223 (by decide) ?_
                exact ih_8 (j + 1) trx Mx Hx locsx ls (by omega) (by omega) (fj_no htr (fun x h9 => absurd h9.2.1 (by omega))) hI hm_4 hm_5 (fun j q0 q1 => hF_7 j q0 q1) (lv_sub hl [1, 2, 3, 4, 5, 0] rfl)
      exact lp69_3 ((sz q - 0) + 1) 0 tr M s.heap [] ls (Nat.lt_succ_self _) (by omega) (fun x => ⟨Or.inl, fun h9 => h9.elim id (fun ⟨k9, h8, _⟩ => absurd h8 (Nat.not_lt_zero k9))⟩) hI h82 h83 (fun j _ _ => rfl) (lv_sub hl [2, 3, 4, 5, 1, 0] rfl)
    · skip
      refine h_iald (i := (4 * i) + p9) hx hb hI h79 (by omega) (by decide) dX10_fits_60 ?_
      refine n_eq (show _ = tmI (te (i * 4 + p9)) from hpf9) ?_
      refine lv_istore (lv' := [(4, .int (tmI (te (i * 4 + p9)))), (0, .ref (ad 60)), (1, .int (nI i)), (2, .int (nI q)), (3, .int (nI p9))]) hx hb dX10_fits_61 hl (by decide) rfl (fun ls hl => ?_)
      refine lv_bipush (v := nI 6) hx hb dX10_fits_63 (by decide) ?_
      refine lv_iload_n hx hb dX10_fits_65 rfl (lv_at hl 3 rfl) ?_
      refine lv_imul hx hb dX10_fits_66 ?_
      refine n_eq (pk_mul 6 q) ?_
      refine lv_istore (lv' := [(5, .int (nI (6 * q))), (4, .int (tmI (te (i * 4 + p9)))), (0, .ref (ad 60)), (1, .int (nI i)), (2, .int (nI q)), (3, .int (nI p9))]) hx hb dX10_fits_67 hl (by decide) rfl (fun ls hl => ?_)
      have lp69_41 : ∀ (fuel : Nat) (j : Nat) (trx : Nat → Bool) (Mx : Mem) (Hx : Heap) (locsx : List Loc) (ls : Array Slot), (sz q - j) < fuel → (j ≤ sz q) → (∀ x, trx x = true ↔ tr x = true ∨ ∃ j9, j9 < j ∧ ftJ sz rl en lst ro te i q 0 p9 gv x j9) → Iv G z ad Mx s Hx locsx → Mx 82 = some (aZ G 384000 (bF trx)) → Mx 83 = some (aI G 3 (oF gv)) → (∀ j : Nat, j ≠ 82 → j ≠ 83 → Mx j = M j) → lv_has ls 9 [(0, .ref (ad 60)), (1, .int (nI i)), (2, .int (nI q)), (3, .int (nI p9)), (4, .int (tmI (te (i * 4 + p9)))), (5, .int (nI (6 * q + j)))] → W p l e (headSpec wsX10_fits rm_c_X10_fits_1).room s m ([.ref (ad 60), .int (nI i), .int (nI q), .int (nI p9)] : List Value).toArray below meth c Hx locsx 0 0 Q (F0 m 69 ls []) := by
        intro fuel
        induction fuel with
        | zero => intro j trx Mx Hx locsx ls hfu hj htr hI hm_42 hm_43 hF_45 hl; exact absurd hfu (Nat.not_lt_zero _)
        | succ fuel ih_46 =>
          intro j trx Mx Hx locsx ls hfu hj htr hI hm_42 hm_43 hF_45 hl
          have hm_47 : Mx 60 = some (cModel ad th ln on ao vr sn tp pt zs bg fa) := by rw [hF_45 60 (by omega) (by omega)]; exact h60
          have hm_48 : Mx 68 = some (aI G 121 (nF mz)) := by rw [hF_45 68 (by omega) (by omega)]; exact h68
          have hm_49 : Mx 69 = some (aI G 726 (nF rr)) := by rw [hF_45 69 (by omega) (by omega)]; exact h69
          have hm_50 : Mx 70 = some (aI G 726 (nF ee)) := by rw [hF_45 70 (by omega) (by omega)]; exact h70
          have hm_51 : Mx 71 = some (aI G 40 (nF lst)) := by rw [hF_45 71 (by omega) (by omega)]; exact h71
          have hm_52 : Mx 77 = some (aI G 12 (nF ap)) := by rw [hF_45 77 (by omega) (by omega)]; exact h77
          have hm_53 : Mx 78 = some (aI G 48 pr) := by rw [hF_45 78 (by omega) (by omega)]; exact h78
          have hm_54 : Mx 79 = some (aI G 48 pf) := by rw [hF_45 79 (by omega) (by omega)]; exact h79
          refine lv_iload hx hb dX10_fits_69 (lv_at hl 5 rfl) ?_
          refine lv_bipush (v := nI 6) hx hb dX10_fits_71 (by decide) ?_
          refine lv_iload_n hx hb dX10_fits_73 rfl (lv_at hl 2 rfl) ?_
          refine lv_imul hx hb dX10_fits_74 ?_
          refine n_eq (pk_mul 6 q) ?_
          refine lv_aload_n hx hb dX10_fits_75 rfl (lv_at hl 0 rfl) ?_
          refine h_get (C := RX10) (T := TX10) (N := 38) hx hb hts i_RX10 hown hI hm_47 rfl 8 (by decide) f_36 rfl rfl dX10_fits_76 ?_
          refine lv_iload_n hx hb dX10_fits_79 rfl (lv_at hl 2 rfl) ?_
          refine h_iald (i := q) hx hb hI hm_48 (by omega) (by decide) dX10_fits_80 ?_
          refine n_eq (show _ = nI (sz q) from congrArg nI hmz) ?_
          refine lv_iadd hx hb dX10_fits_81 ?_
          refine n_eq (nI_add (6 * q) (sz q)) ?_
          refine lv_icmp_ge (tgt := 226) hx hb dX10_fits_82 (by decide) (fun c_55 => ?_) (fun c_55 => ?_)
          · -- 82: nI (6 * q + j) ge
            have c_55 : (6 * q) + (sz q) ≤ 6 * q + j := (nI_leI (a := (6 * q) + (sz q)) (b := 6 * q + j) (by omega) (by omega)).mp (c_55)
            subst hQ
            exact e_Nv hx hb hr hlocks hI ⟨trx, hm_42, hm_43, (fun j q0 q1 => hF_45 j q0 q1), (fun x => by rw [htr x, show j = sz q by omega]; exact Iff.rfl)⟩ dX10_fits_226
          · -- 82: nI (6 * q + j) lt
            have c_55 : 6 * q + j < (6 * q) + (sz q) := by have h := mt (nI_leI (a := (6 * q) + (sz q)) (b := 6 * q + j) (by omega) (by omega)).mpr c_55; omega
            obtain ⟨hrj, hej⟩ := hmj j (by omega)
            obtain ⟨hr6, he4⟩ := hje j (by omega)
            refine lv_aload_n hx hb dX10_fits_85 rfl (lv_at hl 0 rfl) ?_
            refine h_get (C := RX10) (T := TX10) (N := 38) hx hb hts i_RX10 hown hI hm_47 rfl 9 (by decide) f_39 rfl rfl dX10_fits_86 ?_
            refine lv_iload hx hb dX10_fits_89 (lv_at hl 5 rfl) ?_
            refine h_iald (i := 6 * q + j) hx hb hI hm_49 (by omega) (by decide) dX10_fits_91 ?_
            refine n_eq (show _ = nI (rl q j) from congrArg nI hrj) ?_
            refine lv_aload_n hx hb dX10_fits_92 rfl (lv_at hl 0 rfl) ?_
            refine h_get (C := RX10) (T := TX10) (N := 38) hx hb hts i_RX10 hown hI hm_47 rfl 20 (by decide) f_66 rfl rfl dX10_fits_93 ?_
            refine lv_iconst (v := nI 4) hx hb dX10_fits_96 (by decide) ?_
            refine lv_iload_n hx hb dX10_fits_97 rfl (lv_at hl 1 rfl) ?_
            refine lv_imul hx hb dX10_fits_98 ?_
            refine n_eq (pk_mul 4 i) ?_
            refine lv_iload_n hx hb dX10_fits_99 rfl (lv_at hl 3 rfl) ?_
            refine lv_iadd hx hb dX10_fits_100 ?_
            refine n_eq (nI_add (4 * i) p9) ?_
            refine h_iald (i := (4 * i) + p9) hx hb hI hm_53 (by omega) (by decide) dX10_fits_101 ?_
            refine n_eq (show _ = nI (ro (i * 4 + p9)) from hpr9) ?_
            refine lv_icmp_ne (tgt := 220) hx hb dX10_fits_102 (by decide) (fun c_56 => ?_) (fun c_56 => ?_)
            · -- 102: nI (rl q j) ne
              have c_56 : rl q j ≠ ro (i * 4 + p9) := by have h := mt (nI_eq (a := rl q j) (b := ro (i * 4 + p9)) (by omega) (by omega)).mpr c_56; omega
              refine lv_iinc (v := nI (6 * q + j + 1)) (lv' := [(5, .int (nI (6 * q + j + 1))), (0, .ref (ad 60)), (1, .int (nI i)), (2, .int (nI q)), (3, .int (nI p9)), (4, .int (tmI (te (i * 4 + p9))))]) hx hb dX10_fits_220 hl (k := 5) rfl (nI_add (6 * q + j) 1) (by decide) rfl (fun ls hl => ?_)
              refine lv_goto (tgt := 69) hx hb dX10_fits_223 (by decide) ?_
              exact ih_46 (j + 1) trx Mx Hx locsx ls (by omega) (by omega) (fj_no htr (fun x h9 => absurd h9.1 (by assumption))) hI hm_42 hm_43 (fun j q0 q1 => hF_45 j q0 q1) (lv_sub hl [1, 2, 3, 4, 5, 0] rfl)
            · -- 102: nI (rl q j) eq
              have c_56 : rl q j = ro (i * 4 + p9) := (nI_eq (a := rl q j) (b := ro (i * 4 + p9)) (by omega) (by omega)).mp (c_56)
              refine lv_aload_n hx hb dX10_fits_105 rfl (lv_at hl 0 rfl) ?_
              refine h_get (C := RX10) (T := TX10) (N := 38) hx hb hts i_RX10 hown hI hm_47 rfl 10 (by decide) f_42 rfl rfl dX10_fits_106 ?_
              refine lv_iload hx hb dX10_fits_109 (lv_at hl 5 rfl) ?_
              refine h_iald (i := 6 * q + j) hx hb hI hm_50 (by omega) (by decide) dX10_fits_111 ?_
              refine n_eq (show _ = nI (en q j) from congrArg nI hej) ?_
              refine lv_bipush (v := nI 40) hx hb dX10_fits_112 (by decide) ?_
              refine lv_icmp_lt (tgt := 120) hx hb dX10_fits_114 (by decide) (fun c_57 => ?_) (fun c_57 => ?_)
              · -- 114: nI (en q j) lt
                have c_57 : en q j < 40 := (nI_ltI (a := en q j) (b := 40) (by omega) (by omega)).mp (c_57)
                have hle := hlst (en q j) (by omega)
                refine lv_aload_n hx hb dX10_fits_120 rfl (lv_at hl 0 rfl) ?_
                refine h_get (C := RX10) (T := TX10) (N := 38) hx hb hts i_RX10 hown hI hm_47 rfl 12 (by decide) f_45 rfl rfl dX10_fits_121 ?_
                refine lv_aload_n hx hb dX10_fits_124 rfl (lv_at hl 0 rfl) ?_
                refine h_get (C := RX10) (T := TX10) (N := 38) hx hb hts i_RX10 hown hI hm_47 rfl 10 (by decide) f_42 rfl rfl dX10_fits_125 ?_
                refine lv_iload hx hb dX10_fits_128 (lv_at hl 5 rfl) ?_
                refine h_iald (i := 6 * q + j) hx hb hI hm_50 (by omega) (by decide) dX10_fits_130 ?_
                refine n_eq (show _ = nI (en q j) from congrArg nI hej) ?_
                refine h_iald (i := en q j) hx hb hI hm_51 (by omega) (by decide) dX10_fits_131 ?_
                refine lv_istore (lv' := [(6, .int (nI (lst (en q j)))), (0, .ref (ad 60)), (1, .int (nI i)), (2, .int (nI q)), (3, .int (nI p9)), (4, .int (tmI (te (i * 4 + p9)))), (5, .int (nI (6 * q + j)))]) hx hb dX10_fits_132 hl (by decide) rfl (fun ls hl => ?_)
                refine lv_iload hx hb dX10_fits_134 (lv_at hl 5 rfl) ?_
                refine lv_if_lt (tgt := 163) hx hb dX10_fits_136 (by decide) (fun c_58 => ?_) (fun c_58 => ?_)
                · -- 136: tmI (te (i * 4 + p9)) lt
                  refine lv_iconst (v := (-1)) hx hb dX10_fits_163 (by decide) ?_
                  refine lv_iload hx hb dX10_fits_164 (lv_at hl 5 rfl) ?_
                  refine lv_isub hx hb dX10_fits_166 ?_
                  refine n_eq (show _ = nI (te (i * 4 + p9) - 40) from tm_v _ h43 (by omega)) ?_
                  refine lv_istore (lv' := [(7, .int (nI (te (i * 4 + p9) - 40))), (6, .int (nI (lst (en q j)))), (0, .ref (ad 60)), (1, .int (nI i)), (2, .int (nI q)), (3, .int (nI p9)), (4, .int (tmI (te (i * 4 + p9)))), (5, .int (nI (6 * q + j)))]) hx hb dX10_fits_167 hl (by decide) rfl (fun ls hl => ?_)
                  refine lv_aload_n hx hb dX10_fits_169 rfl (lv_at hl 2 rfl) ?_
                  refine h_get (C := RX10) (T := TX10) (N := 38) hx hb hts i_RX10 hown hI hm_47 rfl 33 (by decide) f_86 rfl rfl dX10_fits_170 ?_
                  refine lv_iload hx hb dX10_fits_173 (lv_at hl 0 rfl) ?_
                  refine h_iald (i := te (i * 4 + p9) - 40) hx hb hI hm_43 (by omega) (by decide) dX10_fits_175 ?_
                  refine lv_istore (lv' := [(8, .int (oI (gv (te (i * 4 + p9) - 40)))), (7, .int (nI (te (i * 4 + p9) - 40))), (6, .int (nI (lst (en q j)))), (0, .ref (ad 60)), (1, .int (nI i)), (2, .int (nI q)), (3, .int (nI p9)), (4, .int (tmI (te (i * 4 + p9)))), (5, .int (nI (6 * q + j)))]) hx hb dX10_fits_176 hl (by decide) rfl (fun ls hl => ?_)
                  have hgd := gz_lt (hgv (te (i * 4 + p9) - 40) (by omega))
                  by_cases hc_59 : gv (te (i * 4 + p9) - 40) = none
                  · skip
                    refine lv_iload hx hb dX10_fits_178 (lv_at hl 0 rfl) ?_
                    refine n_eq (show _ = (-1) from congrArg oI hc_59) ?_
                    refine lv_if_lt (tgt := 193) hx hb dX10_fits_180 (by decide) (fun c_60 => ?_) (fun c_60 => ?_)
                    · -- 180: (-1) lt
                      refine lv_aload_n hx hb dX10_fits_193 rfl (lv_at hl 3 rfl) ?_
                      refine h_get (C := RX10) (T := TX10) (N := 38) hx hb hts i_RX10 hown hI hm_47 rfl 33 (by decide) f_86 rfl rfl dX10_fits_194 ?_
                      refine lv_iload hx hb dX10_fits_197 (lv_at hl 1 rfl) ?_
                      refine lv_iload hx hb dX10_fits_199 (lv_at hl 2 rfl) ?_
                      refine h_iast (i := te (i * 4 + p9) - 40) (x := nI (lst (en q j))) hx hb hI hm_43 (by omega) (by decide) dX10_fits_201 (fun M_61 H_62 locs_63 eM_64 hI => ?_)
                      rw [upd_oF_n] at eM_64
                      have hm_65 : M_61 60 = some (cModel ad th ln on ao vr sn tp pt zs bg fa) := by rw [eM_64, va_up_ne _ _ (by decide)]; exact hm_47
                      have hm_66 : M_61 68 = some (aI G 121 (nF mz)) := by rw [eM_64, va_up_ne _ _ (by decide)]; exact hm_48
                      have hm_67 : M_61 69 = some (aI G 726 (nF rr)) := by rw [eM_64, va_up_ne _ _ (by decide)]; exact hm_49
                      have hm_68 : M_61 70 = some (aI G 726 (nF ee)) := by rw [eM_64, va_up_ne _ _ (by decide)]; exact hm_50
                      have hm_69 : M_61 71 = some (aI G 40 (nF lst)) := by rw [eM_64, va_up_ne _ _ (by decide)]; exact hm_51
                      have hm_70 : M_61 77 = some (aI G 12 (nF ap)) := by rw [eM_64, va_up_ne _ _ (by decide)]; exact hm_52
                      have hm_71 : M_61 78 = some (aI G 48 pr) := by rw [eM_64, va_up_ne _ _ (by decide)]; exact hm_53
                      have hm_72 : M_61 79 = some (aI G 48 pf) := by rw [eM_64, va_up_ne _ _ (by decide)]; exact hm_54
                      have hm_73 : M_61 82 = some (aZ G 384000 (bF trx)) := by rw [eM_64, va_up_ne _ _ (by decide)]; exact hm_42
                      have hm_74 : M_61 83 = some (aI G 3 (oF (va_up gv (te (i * 4 + p9) - 40) (some (lst (en q j)))))) := by rw [eM_64]; exact va_up_self _ _ _
                      have hF_75 : ∀ j : Nat, j ≠ 82 → j ≠ 83 → M_61 j = M j := fun j q0 q1 => by rw [eM_64, va_up_ne _ _ q1]; exact hF_45 j q0 q1
                      refine lv_aload_n hx hb dX10_fits_202 rfl (lv_at hl 3 rfl) ?_
                      refine lv_iload_n hx hb dX10_fits_203 rfl (lv_at hl 4 rfl) ?_
                      refine lv_iload_n hx hb dX10_fits_204 rfl (lv_at hl 5 rfl) ?_
                      refine lv_iload_n hx hb dX10_fits_205 rfl (lv_at hl 6 rfl) ?_
                      refine lv_iconst (v := nI 1) hx hb dX10_fits_206 (by decide) ?_
                      refine lv_iadd hx hb dX10_fits_207 ?_
                      refine n_eq (nI_add p9 1) ?_
                      refine k_Nv (va_runV (As := [.int (nI i), .int (nI q), .int (nI (p9 + 1))]) (rest := []) ⟨hx, hb, hml, hown, hts⟩ (c_X10_fits_0 l G z ad M_61 (th := th) (ln := ln) (on := on) (ao := ao) (vr := vr) (sn := sn) (tp := tp) (pt := pt) (zs := zs) (bg := bg) (fa := fa) (n := n) (kd := kd) (fm := fm) (to := to) (sz := sz) (rl := rl) (en := en) (mk := mk) (mf := mf) (mu := mu) (mz := mz) (rr := rr) (ee := ee) (lst := lst) (ap := ap) (pr := pr) (pf := pf) (ro := ro) (te := te) (tr := trx) (gv := (va_up gv (te (i * 4 + p9) - 40) (some (lst (en q j))))) (i := i) (q := q) (p9 := p9 + 1) hm_65 hm_66 hm_67 hm_68 hm_69 hm_70 hm_71 hm_72 hm_73 hm_74 hw hmr (by omega) (by omega) (by omega) hpp (gv_up hgv hle) hlst (by omega)) (cwV 3 hts (gV (lwg_of t_1331 rfl) (lwg_of t_1333 rfl) (lwg_of ts_41 rfl) (lwg_of t_13 rfl) (lwg_of t_1334 rfl)) rfl rfl rfl (by decide +kernel) ⟨Nat.le_of_ble_eq_true rfl, Nat.le_of_ble_eq_true rfl⟩) (hI.preV hm_65 rfl) rfl rfl hl.1 rfl (lv_room (Nat.le_of_ble_eq_true rfl)) dX10_fits_208 ⟨Nat.le_of_ble_eq_true rfl, Nat.le_of_ble_eq_true rfl⟩) hI (fun M_78 H_79 locs_80 hp_77 hI => ?_)
                      obtain ⟨tr2_85, hm_81, hm_82, hF_83, hP_84⟩ := hp_77
                      have hm_86 : M_78 60 = some (cModel ad th ln on ao vr sn tp pt zs bg fa) := by rw [hF_83 60 (by omega) (by omega)]; exact hm_65
                      have hm_87 : M_78 68 = some (aI G 121 (nF mz)) := by rw [hF_83 68 (by omega) (by omega)]; exact hm_66
                      have hm_88 : M_78 69 = some (aI G 726 (nF rr)) := by rw [hF_83 69 (by omega) (by omega)]; exact hm_67
                      have hm_89 : M_78 70 = some (aI G 726 (nF ee)) := by rw [hF_83 70 (by omega) (by omega)]; exact hm_68
                      have hm_90 : M_78 71 = some (aI G 40 (nF lst)) := by rw [hF_83 71 (by omega) (by omega)]; exact hm_69
                      have hm_91 : M_78 77 = some (aI G 12 (nF ap)) := by rw [hF_83 77 (by omega) (by omega)]; exact hm_70
                      have hm_92 : M_78 78 = some (aI G 48 pr) := by rw [hF_83 78 (by omega) (by omega)]; exact hm_71
                      have hm_93 : M_78 79 = some (aI G 48 pf) := by rw [hF_83 79 (by omega) (by omega)]; exact hm_72
                      have hF_94 : ∀ j : Nat, j ≠ 82 → j ≠ 83 → M_78 j = M j := fun j q0 q1 => (hF_83 j q0 q1).trans (hF_75 j q0 q1)
                      refine lv_aload_n hx hb dX10_fits_211 rfl (lv_at hl 3 rfl) ?_
                      refine h_get (C := RX10) (T := TX10) (N := 38) hx hb hts i_RX10 hown hI hm_86 rfl 33 (by decide) f_86 rfl rfl dX10_fits_212 ?_
                      refine lv_iload hx hb dX10_fits_215 (lv_at hl 1 rfl) ?_
                      refine lv_iload hx hb dX10_fits_217 (lv_at hl 0 rfl) ?_
                      refine h_iast (i := te (i * 4 + p9) - 40) (x := oI (gv (te (i * 4 + p9) - 40))) hx hb hI hm_82 (by omega) (by decide) dX10_fits_219 (fun M_95 H_96 locs_97 eM_98 hI => ?_)
                      rw [upd_oF] at eM_98
                      have hm_99 : M_95 60 = some (cModel ad th ln on ao vr sn tp pt zs bg fa) := by rw [eM_98, va_up_ne _ _ (by decide)]; exact hm_86
                      have hm_100 : M_95 68 = some (aI G 121 (nF mz)) := by rw [eM_98, va_up_ne _ _ (by decide)]; exact hm_87
                      have hm_101 : M_95 69 = some (aI G 726 (nF rr)) := by rw [eM_98, va_up_ne _ _ (by decide)]; exact hm_88
                      have hm_102 : M_95 70 = some (aI G 726 (nF ee)) := by rw [eM_98, va_up_ne _ _ (by decide)]; exact hm_89
                      have hm_103 : M_95 71 = some (aI G 40 (nF lst)) := by rw [eM_98, va_up_ne _ _ (by decide)]; exact hm_90
                      have hm_104 : M_95 77 = some (aI G 12 (nF ap)) := by rw [eM_98, va_up_ne _ _ (by decide)]; exact hm_91
                      have hm_105 : M_95 78 = some (aI G 48 pr) := by rw [eM_98, va_up_ne _ _ (by decide)]; exact hm_92
                      have hm_106 : M_95 79 = some (aI G 48 pf) := by rw [eM_98, va_up_ne _ _ (by decide)]; exact hm_93
                      have hm_107 : M_95 82 = some (aZ G 384000 (bF tr2_85)) := by rw [eM_98, va_up_ne _ _ (by decide)]; exact hm_81
                      have hm_108 : M_95 83 = some (aI G 3 (oF (va_up (va_up gv (te (i * 4 + p9) - 40) (some (lst (en q j)))) (te (i * 4 + p9) - 40) (gv (te (i * 4 + p9) - 40))))) := by rw [eM_98]; exact va_up_self _ _ _
                      have hF_109 : ∀ j : Nat, j ≠ 82 → j ≠ 83 → M_95 j = M j := fun j q0 q1 => by rw [eM_98, va_up_ne _ _ q1]; exact hF_94 j q0 q1
                      rw [va_back] at hm_108
                      refine lv_iinc (v := nI (6 * q + j + 1)) (lv' := [(5, .int (nI (6 * q + j + 1))), (8, .int (oI (gv (te (i * 4 + p9) - 40)))), (7, .int (nI (te (i * 4 + p9) - 40))), (6, .int (nI (lst (en q j)))), (0, .ref (ad 60)), (1, .int (nI i)), (2, .int (nI q)), (3, .int (nI p9)), (4, .int (tmI (te (i * 4 + p9))))]) hx hb dX10_fits_220 hl (k := 8) rfl (nI_add (6 * q + j) 1) (by decide) rfl (fun ls hl => ?_)
                      refine lv_goto (tgt := 69) hx hb dX10_fits_223 (by decide) ?_
                      exact ih_46 (j + 1) tr2_85 M_95 H_96 locs_97 ls (by omega) (by omega) (fj_yes htr hP_84 (fun x => ⟨fun h9 => h9.2.2.elim (fun g9 => absurd g9.1 (by omega)) (fun g9 => g9.2.2), fun f9 => ⟨by assumption, by assumption, Or.inr ⟨by omega, Or.inl hc_59, f9⟩⟩⟩)) hI hm_107 hm_108 (fun j q0 q1 => hF_109 j q0 q1) (lv_sub hl [4, 5, 6, 7, 8, 0] rfl)
                    · -- 180: (-1) ge
                      exact absurd (by decide) c_60
                  · skip
                    refine lv_iload hx hb dX10_fits_178 (lv_at hl 0 rfl) ?_
                    refine n_eq (show _ = nI ((gv (te (i * 4 + p9) - 40)).getD 0) from o_some hc_59) ?_
                    refine lv_if_lt (tgt := 193) hx hb dX10_fits_180 (by decide) (fun c_110 => ?_) (fun c_110 => ?_)
                    · -- 180: nI ((gv (te (i * 4 + p9) - 40)).getD 0) lt
                      have c_110 : (gv (te (i * 4 + p9) - 40)).getD 0 < 0 := (nI_ltI (a := (gv (te (i * 4 + p9) - 40)).getD 0) (b := 0) (by omega) (by omega)).mp (c_110)
                      omega
                    · -- 180: nI ((gv (te (i * 4 + p9) - 40)).getD 0) ge
                      have c_110 : 0 ≤ (gv (te (i * 4 + p9) - 40)).getD 0 := by have h := mt (nI_ltI (a := (gv (te (i * 4 + p9) - 40)).getD 0) (b := 0) (by omega) (by omega)).mpr c_110; omega
                      refine lv_iload hx hb dX10_fits_183 (lv_at hl 0 rfl) ?_
                      refine n_eq (show _ = nI ((gv (te (i * 4 + p9) - 40)).getD 0) from o_some hc_59) ?_
                      refine lv_iload hx hb dX10_fits_185 (lv_at hl 2 rfl) ?_
                      refine lv_icmp_eq (tgt := 193) hx hb dX10_fits_187 (by decide) (fun c_111 => ?_) (fun c_111 => ?_)
                      · -- 187: nI ((gv (te (i * 4 + p9) - 40)).getD 0) eq
                        have c_111 : (gv (te (i * 4 + p9) - 40)).getD 0 = lst (en q j) := (nI_eq (a := (gv (te (i * 4 + p9) - 40)).getD 0) (b := lst (en q j)) (by omega) (by omega)).mp (c_111)
                        refine lv_aload_n hx hb dX10_fits_193 rfl (lv_at hl 3 rfl) ?_
                        refine h_get (C := RX10) (T := TX10) (N := 38) hx hb hts i_RX10 hown hI hm_47 rfl 33 (by decide) f_86 rfl rfl dX10_fits_194 ?_
                        refine lv_iload hx hb dX10_fits_197 (lv_at hl 1 rfl) ?_
                        refine lv_iload hx hb dX10_fits_199 (lv_at hl 2 rfl) ?_
                        refine h_iast (i := te (i * 4 + p9) - 40) (x := nI (lst (en q j))) hx hb hI hm_43 (by omega) (by decide) dX10_fits_201 (fun M_112 H_113 locs_114 eM_115 hI => ?_)
                        rw [upd_oF_n] at eM_115
                        have hm_116 : M_112 60 = some (cModel ad th ln on ao vr sn tp pt zs bg fa) := by rw [eM_115, va_up_ne _ _ (by decide)]; exact hm_47
                        have hm_117 : M_112 68 = some (aI G 121 (nF mz)) := by rw [eM_115, va_up_ne _ _ (by decide)]; exact hm_48
                        have hm_118 : M_112 69 = some (aI G 726 (nF rr)) := by rw [eM_115, va_up_ne _ _ (by decide)]; exact hm_49
                        have hm_119 : M_112 70 = some (aI G 726 (nF ee)) := by rw [eM_115, va_up_ne _ _ (by decide)]; exact hm_50
                        have hm_120 : M_112 71 = some (aI G 40 (nF lst)) := by rw [eM_115, va_up_ne _ _ (by decide)]; exact hm_51
                        have hm_121 : M_112 77 = some (aI G 12 (nF ap)) := by rw [eM_115, va_up_ne _ _ (by decide)]; exact hm_52
                        have hm_122 : M_112 78 = some (aI G 48 pr) := by rw [eM_115, va_up_ne _ _ (by decide)]; exact hm_53
                        have hm_123 : M_112 79 = some (aI G 48 pf) := by rw [eM_115, va_up_ne _ _ (by decide)]; exact hm_54
                        have hm_124 : M_112 82 = some (aZ G 384000 (bF trx)) := by rw [eM_115, va_up_ne _ _ (by decide)]; exact hm_42
                        have hm_125 : M_112 83 = some (aI G 3 (oF (va_up gv (te (i * 4 + p9) - 40) (some (lst (en q j)))))) := by rw [eM_115]; exact va_up_self _ _ _
                        have hF_126 : ∀ j : Nat, j ≠ 82 → j ≠ 83 → M_112 j = M j := fun j q0 q1 => by rw [eM_115, va_up_ne _ _ q1]; exact hF_45 j q0 q1
                        refine lv_aload_n hx hb dX10_fits_202 rfl (lv_at hl 3 rfl) ?_
                        refine lv_iload_n hx hb dX10_fits_203 rfl (lv_at hl 4 rfl) ?_
                        refine lv_iload_n hx hb dX10_fits_204 rfl (lv_at hl 5 rfl) ?_
                        refine lv_iload_n hx hb dX10_fits_205 rfl (lv_at hl 6 rfl) ?_
                        refine lv_iconst (v := nI 1) hx hb dX10_fits_206 (by decide) ?_
                        refine lv_iadd hx hb dX10_fits_207 ?_
                        refine n_eq (nI_add p9 1) ?_
                        refine k_Nv (va_runV (As := [.int (nI i), .int (nI q), .int (nI (p9 + 1))]) (rest := []) ⟨hx, hb, hml, hown, hts⟩ (c_X10_fits_0 l G z ad M_112 (th := th) (ln := ln) (on := on) (ao := ao) (vr := vr) (sn := sn) (tp := tp) (pt := pt) (zs := zs) (bg := bg) (fa := fa) (n := n) (kd := kd) (fm := fm) (to := to) (sz := sz) (rl := rl) (en := en) (mk := mk) (mf := mf) (mu := mu) (mz := mz) (rr := rr) (ee := ee) (lst := lst) (ap := ap) (pr := pr) (pf := pf) (ro := ro) (te := te) (tr := trx) (gv := (va_up gv (te (i * 4 + p9) - 40) (some (lst (en q j))))) (i := i) (q := q) (p9 := p9 + 1) hm_116 hm_117 hm_118 hm_119 hm_120 hm_121 hm_122 hm_123 hm_124 hm_125 hw hmr (by omega) (by omega) (by omega) hpp (gv_up hgv hle) hlst (by omega)) (cwV 3 hts (gV (lwg_of t_1331 rfl) (lwg_of t_1333 rfl) (lwg_of ts_41 rfl) (lwg_of t_13 rfl) (lwg_of t_1334 rfl)) rfl rfl rfl (by decide +kernel) ⟨Nat.le_of_ble_eq_true rfl, Nat.le_of_ble_eq_true rfl⟩) (hI.preV hm_116 rfl) rfl rfl hl.1 rfl (lv_room (Nat.le_of_ble_eq_true rfl)) dX10_fits_208 ⟨Nat.le_of_ble_eq_true rfl, Nat.le_of_ble_eq_true rfl⟩) hI (fun M_129 H_130 locs_131 hp_128 hI => ?_)
                        obtain ⟨tr2_136, hm_132, hm_133, hF_134, hP_135⟩ := hp_128
                        have hm_137 : M_129 60 = some (cModel ad th ln on ao vr sn tp pt zs bg fa) := by rw [hF_134 60 (by omega) (by omega)]; exact hm_116
                        have hm_138 : M_129 68 = some (aI G 121 (nF mz)) := by rw [hF_134 68 (by omega) (by omega)]; exact hm_117
                        have hm_139 : M_129 69 = some (aI G 726 (nF rr)) := by rw [hF_134 69 (by omega) (by omega)]; exact hm_118
                        have hm_140 : M_129 70 = some (aI G 726 (nF ee)) := by rw [hF_134 70 (by omega) (by omega)]; exact hm_119
                        have hm_141 : M_129 71 = some (aI G 40 (nF lst)) := by rw [hF_134 71 (by omega) (by omega)]; exact hm_120
                        have hm_142 : M_129 77 = some (aI G 12 (nF ap)) := by rw [hF_134 77 (by omega) (by omega)]; exact hm_121
                        have hm_143 : M_129 78 = some (aI G 48 pr) := by rw [hF_134 78 (by omega) (by omega)]; exact hm_122
                        have hm_144 : M_129 79 = some (aI G 48 pf) := by rw [hF_134 79 (by omega) (by omega)]; exact hm_123
                        have hF_145 : ∀ j : Nat, j ≠ 82 → j ≠ 83 → M_129 j = M j := fun j q0 q1 => (hF_134 j q0 q1).trans (hF_126 j q0 q1)
                        refine lv_aload_n hx hb dX10_fits_211 rfl (lv_at hl 3 rfl) ?_
                        refine h_get (C := RX10) (T := TX10) (N := 38) hx hb hts i_RX10 hown hI hm_137 rfl 33 (by decide) f_86 rfl rfl dX10_fits_212 ?_
                        refine lv_iload hx hb dX10_fits_215 (lv_at hl 1 rfl) ?_
                        refine lv_iload hx hb dX10_fits_217 (lv_at hl 0 rfl) ?_
                        refine h_iast (i := te (i * 4 + p9) - 40) (x := oI (gv (te (i * 4 + p9) - 40))) hx hb hI hm_133 (by omega) (by decide) dX10_fits_219 (fun M_146 H_147 locs_148 eM_149 hI => ?_)
                        rw [upd_oF] at eM_149
                        have hm_150 : M_146 60 = some (cModel ad th ln on ao vr sn tp pt zs bg fa) := by rw [eM_149, va_up_ne _ _ (by decide)]; exact hm_137
                        have hm_151 : M_146 68 = some (aI G 121 (nF mz)) := by rw [eM_149, va_up_ne _ _ (by decide)]; exact hm_138
                        have hm_152 : M_146 69 = some (aI G 726 (nF rr)) := by rw [eM_149, va_up_ne _ _ (by decide)]; exact hm_139
                        have hm_153 : M_146 70 = some (aI G 726 (nF ee)) := by rw [eM_149, va_up_ne _ _ (by decide)]; exact hm_140
                        have hm_154 : M_146 71 = some (aI G 40 (nF lst)) := by rw [eM_149, va_up_ne _ _ (by decide)]; exact hm_141
                        have hm_155 : M_146 77 = some (aI G 12 (nF ap)) := by rw [eM_149, va_up_ne _ _ (by decide)]; exact hm_142
                        have hm_156 : M_146 78 = some (aI G 48 pr) := by rw [eM_149, va_up_ne _ _ (by decide)]; exact hm_143
                        have hm_157 : M_146 79 = some (aI G 48 pf) := by rw [eM_149, va_up_ne _ _ (by decide)]; exact hm_144
                        have hm_158 : M_146 82 = some (aZ G 384000 (bF tr2_136)) := by rw [eM_149, va_up_ne _ _ (by decide)]; exact hm_132
                        have hm_159 : M_146 83 = some (aI G 3 (oF (va_up (va_up gv (te (i * 4 + p9) - 40) (some (lst (en q j)))) (te (i * 4 + p9) - 40) (gv (te (i * 4 + p9) - 40))))) := by rw [eM_149]; exact va_up_self _ _ _
                        have hF_160 : ∀ j : Nat, j ≠ 82 → j ≠ 83 → M_146 j = M j := fun j q0 q1 => by rw [eM_149, va_up_ne _ _ q1]; exact hF_145 j q0 q1
                        rw [va_back] at hm_159
                        refine lv_iinc (v := nI (6 * q + j + 1)) (lv' := [(5, .int (nI (6 * q + j + 1))), (8, .int (oI (gv (te (i * 4 + p9) - 40)))), (7, .int (nI (te (i * 4 + p9) - 40))), (6, .int (nI (lst (en q j)))), (0, .ref (ad 60)), (1, .int (nI i)), (2, .int (nI q)), (3, .int (nI p9)), (4, .int (tmI (te (i * 4 + p9))))]) hx hb dX10_fits_220 hl (k := 8) rfl (nI_add (6 * q + j) 1) (by decide) rfl (fun ls hl => ?_)
                        refine lv_goto (tgt := 69) hx hb dX10_fits_223 (by decide) ?_
                        exact ih_46 (j + 1) tr2_136 M_146 H_147 locs_148 ls (by omega) (by omega) (fj_yes htr hP_135 (fun x => ⟨fun h9 => h9.2.2.elim (fun g9 => absurd g9.1 (by omega)) (fun g9 => g9.2.2), fun f9 => ⟨by assumption, by assumption, Or.inr ⟨by omega, Or.inr (o_ofD hc_59 (by assumption)), f9⟩⟩⟩)) hI hm_158 hm_159 (fun j q0 q1 => hF_160 j q0 q1) (lv_sub hl [4, 5, 6, 7, 8, 0] rfl)
                      · -- 187: nI ((gv (te (i * 4 + p9) - 40)).getD 0) ne
                        have c_111 : (gv (te (i * 4 + p9) - 40)).getD 0 ≠ lst (en q j) := by have h := mt (nI_eq (a := (gv (te (i * 4 + p9) - 40)).getD 0) (b := lst (en q j)) (by omega) (by omega)).mpr c_111; omega
                        refine lv_goto (tgt := 220) hx hb dX10_fits_190 (by decide) ?_
                        refine lv_iinc (v := nI (6 * q + j + 1)) (lv' := [(5, .int (nI (6 * q + j + 1))), (8, .int (oI (gv (te (i * 4 + p9) - 40)))), (7, .int (nI (te (i * 4 + p9) - 40))), (6, .int (nI (lst (en q j)))), (0, .ref (ad 60)), (1, .int (nI i)), (2, .int (nI q)), (3, .int (nI p9)), (4, .int (tmI (te (i * 4 + p9))))]) hx hb dX10_fits_220 hl (k := 8) rfl (nI_add (6 * q + j) 1) (by decide) rfl (fun ls hl => ?_)
                        refine lv_goto (tgt := 69) hx hb dX10_fits_223 (by decide) ?_
                        exact ih_46 (j + 1) trx Mx Hx locsx ls (by omega) (by omega) (fj_no htr (fun x h9 => h9.2.2.elim (fun g9 => absurd g9.1 (by omega)) (fun g9 => g9.2.1.elim (fun e9 => hc_59 e9) (fun e9 => absurd (o_getD e9) (by assumption))))) hI hm_42 hm_43 (fun j q0 q1 => hF_45 j q0 q1) (lv_sub hl [4, 5, 6, 7, 8, 0] rfl)
                · -- 136: tmI (te (i * 4 + p9)) ge
                  exact absurd (tm_neg _ h43 (by omega)) (by assumption)
              · -- 114: nI (en q j) ge
                have c_57 : 40 ≤ en q j := by have h := mt (nI_ltI (a := en q j) (b := 40) (by omega) (by omega)).mpr c_57; omega
                refine lv_goto (tgt := 220) hx hb dX10_fits_117 (by decide) ?_
                refine lv_iinc (v := nI (6 * q + j + 1)) (lv' := [(5, .int (nI (6 * q + j + 1))), (0, .ref (ad 60)), (1, .int (nI i)), (2, .int (nI q)), (3, .int (nI p9)), (4, .int (tmI (te (i * 4 + p9))))]) hx hb dX10_fits_220 hl (k := 5) rfl (nI_add (6 * q + j) 1) (by decide) rfl (fun ls hl => ?_)
                refine lv_goto (tgt := 69) hx hb dX10_fits_223 (by decide) ?_
                exact ih_46 (j + 1) trx Mx Hx locsx ls (by omega) (by omega) (fj_no htr (fun x h9 => absurd h9.2.1 (by omega))) hI hm_42 hm_43 (fun j q0 q1 => hF_45 j q0 q1) (lv_sub hl [1, 2, 3, 4, 5, 0] rfl)
      exact lp69_41 ((sz q - 0) + 1) 0 tr M s.heap [] ls (Nat.lt_succ_self _) (by omega) (fun x => ⟨Or.inl, fun h9 => h9.elim id (fun ⟨k9, h8, _⟩ => absurd h8 (Nat.not_lt_zero k9))⟩) hI h82 h83 (fun j _ _ => rfl) (lv_sub hl [2, 3, 4, 5, 1, 0] rfl)
  · -- 7: nI p9 eq
    have c_1 : p9 = ap i := (nI_eq (a := p9) (b := ap i) (by omega) (by omega)).mp (c_1)
    omega

/-- X10_fits -/
abbrev rm_c_X10_fits_2 : Room := { frames := 3, cells := 0, slots := 0, locals := 86 }
set_option maxHeartbeats 4000000 in
set_option maxRecDepth 100000 in
theorem c_X10_fits_2 (l : Launch) (G : GG) (z : Nat) (ad : Nat → Nat) (M : Mem) {th : Nat} {ln : Nat} {on : Nat} {ao : Nat} {vr : Nat} {sn : Nat} {tp : Nat} {pt : Nat} {zs : Nat} {bg : Nat} {fa : Int32} {n : Nat} {kd : Nat → Nat} {fm : Nat → Int32} {to : Nat → Int32} {sz : Nat → Nat} {rl : Nat → Nat → Nat} {en : Nat → Nat → Nat} {mk : Nat → Nat} {mf : Nat → Int32} {mu : Nat → Int32} {mz : Nat → Nat} {rr : Nat → Nat} {ee : Nat → Nat} {lst : Nat → Nat} {ap : Nat → Nat} {pr : Nat → Int32} {pf : Nat → Int32} {ro : Nat → Nat} {te : Nat → Nat} {tr : Nat → Bool} {gv : Nat → Option Nat} {i : Nat} {q : Nat} {p9 : Nat} (h60 : M 60 = some (cModel ad th ln on ao vr sn tp pt zs bg fa)) (h68 : M 68 = some (aI G 121 (nF mz))) (h69 : M 69 = some (aI G 726 (nF rr))) (h70 : M 70 = some (aI G 726 (nF ee))) (h71 : M 71 = some (aI G 40 (nF lst))) (h77 : M 77 = some (aI G 12 (nF ap))) (h78 : M 78 = some (aI G 48 pr)) (h79 : M 79 = some (aI G 48 pf)) (h82 : M 82 = some (aZ G 384000 (bF tr))) (h83 : M 83 = some (aI G 3 (oF gv))) (hw : LSw n kd sz rl en) (hmr : MRel n kd fm to sz rl en mk mf mu mz rr ee) (hq : q < n) (hi6 : i < 6) (hap : ap i ≤ 4) (hpp : ∀ p8, p8 < ap i → (pr (4 * i + p8) = nI (ro (i * 4 + p8)) ∧ ro (i * 4 + p8) < 6) ∧ te (i * 4 + p8) < 43 ∧ pf (4 * i + p8) = tmI (te (i * 4 + p8))) (hgv : ∀ v, v < 3 → ∀ t, gv v = some t → t < 40) (hlst : ∀ u, u < 40 → lst u < 40) (hpr : p9 + 2 = ap i) : Met l yX10_fits wsX10_fits rm_c_X10_fits_2 (Pr G z ad M [.ref (ad 60), .int (nI i), .int (nI q), .int (nI p9)]) (Nv G z ad (fun (M' : Mem) => ∃ tr2 : Nat → Bool, M' 82 = some (aZ G 384000 (bF tr2)) ∧ M' 83 = some (aI G 3 (oF gv)) ∧ (∀ j : Nat, j ≠ 82 → j ≠ 83 → M' j = M j) ∧ (∀ x, tr2 x = true ↔ tr x = true ∨ ftS sz rl en lst ro te i q 2 p9 gv x))) 0 0 (fr z) := by
  refine Met.ofW (cc := cX10_fits) (maxL := 9) (ret := none) (by decide) rfl ?_
  intro p e s m args below meth c s₁ B hml hv
  obtain ⟨rfl, hv⟩ := hv
  have hI := Iv.entry hv
  have hx := B.exec
  have hb := B.bytes
  have hr := B.returns
  have hts := atoms_spec (ws := wsX10_fits) B.pre
  have hown : s.vm.findClass RX10 = some m.cls := findClass_of_methodNamed B.named
  have hlocks := B.notSynchronized
  have i_RX10 : ∀ w ∈ u_ws RX10 TX10 38, w ∈ wsX10_fits := fun w h => List.mem_cons_of_mem _ (iu_X10 w h)
  have f_63 := hts _ (List.mem_cons_of_mem _ (lwg_of t_1032 rfl))
  have f_69 := hts _ (List.mem_cons_of_mem _ (lwg_of t_1034 rfl))
  have f_36 := hts _ (List.mem_cons_of_mem _ (lwg_of t_1021 rfl))
  have f_39 := hts _ (List.mem_cons_of_mem _ (lwg_of t_1022 rfl))
  have f_66 := hts _ (List.mem_cons_of_mem _ (lwg_of t_1033 rfl))
  have f_42 := hts _ (List.mem_cons_of_mem _ (lwg_of t_1023 rfl))
  have f_45 := hts _ (List.mem_cons_of_mem _ (lwg_of t_1025 rfl))
  have f_86 := hts _ (List.mem_cons_of_mem _ (lwg_of t_1046 rfl))
  have hl := lv_entry ([.ref (ad 60), .int (nI i), .int (nI q), .int (nI p9)]) (n := 9) (Nat.le_of_ble_eq_true rfl)
  rw [lg_entry_eq]
  generalize (lg_sl ([.ref (ad 60), .int (nI i), .int (nI q), .int (nI p9)]) ++ List.replicate (9 - (lg_sl ([.ref (ad 60), .int (nI i), .int (nI q), .int (nI p9)])).length) Slot.unset).toArray = ls at hl ⊢
  have hl : lv_has ls 9 [(0, .ref (ad 60)), (1, .int (nI i)), (2, .int (nI q)), (3, .int (nI p9))] := hl
  refine w_q (fun Q hQ => ?_)
  have hw1 := hw.1
  obtain ⟨hk6, hs6, hje⟩ := hw.2 q hq
  obtain ⟨hmk, hmf, hmt, hmz, hmj⟩ := hmr q hq
  obtain ⟨⟨hpr9, hro6⟩, h43, hpf9⟩ := hpp p9 (by omega)
  refine lv_iload_n hx hb dX10_fits_0 rfl (lv_at hl 3 rfl) ?_
  refine lv_aload_n hx hb dX10_fits_1 rfl (lv_at hl 0 rfl) ?_
  refine h_get (C := RX10) (T := TX10) (N := 38) hx hb hts i_RX10 hown hI h60 rfl 19 (by decide) f_63 rfl rfl dX10_fits_2 ?_
  refine lv_iload_n hx hb dX10_fits_5 rfl (lv_at hl 1 rfl) ?_
  refine h_iald (i := i) hx hb hI h77 (by omega) (by decide) dX10_fits_6 ?_
  refine lv_icmp_ne (tgt := 51) hx hb dX10_fits_7 (by decide) (fun c_1 => ?_) (fun c_1 => ?_)
  · -- 7: nI p9 ne
    have c_1 : p9 ≠ ap i := by have h := mt (nI_eq (a := p9) (b := ap i) (by omega) (by omega)).mpr c_1; omega
    refine lv_aload_n hx hb dX10_fits_51 rfl (lv_at hl 0 rfl) ?_
    refine h_get (C := RX10) (T := TX10) (N := 38) hx hb hts i_RX10 hown hI h60 rfl 21 (by decide) f_69 rfl rfl dX10_fits_52 ?_
    refine lv_iconst (v := nI 4) hx hb dX10_fits_55 (by decide) ?_
    refine lv_iload_n hx hb dX10_fits_56 rfl (lv_at hl 1 rfl) ?_
    refine lv_imul hx hb dX10_fits_57 ?_
    refine n_eq (pk_mul 4 i) ?_
    refine lv_iload_n hx hb dX10_fits_58 rfl (lv_at hl 3 rfl) ?_
    refine lv_iadd hx hb dX10_fits_59 ?_
    refine n_eq (nI_add (4 * i) p9) ?_
    by_cases hc_2 : te (i * 4 + p9) < 40
    · skip
      refine h_iald (i := (4 * i) + p9) hx hb hI h79 (by omega) (by decide) dX10_fits_60 ?_
      refine n_eq (show _ = nI (te (i * 4 + p9)) from hpf9.trans (tm_thing hc_2).symm) ?_
      refine lv_istore (lv' := [(4, .int (nI (te (i * 4 + p9)))), (0, .ref (ad 60)), (1, .int (nI i)), (2, .int (nI q)), (3, .int (nI p9))]) hx hb dX10_fits_61 hl (by decide) rfl (fun ls hl => ?_)
      refine lv_bipush (v := nI 6) hx hb dX10_fits_63 (by decide) ?_
      refine lv_iload_n hx hb dX10_fits_65 rfl (lv_at hl 3 rfl) ?_
      refine lv_imul hx hb dX10_fits_66 ?_
      refine n_eq (pk_mul 6 q) ?_
      refine lv_istore (lv' := [(5, .int (nI (6 * q))), (4, .int (nI (te (i * 4 + p9)))), (0, .ref (ad 60)), (1, .int (nI i)), (2, .int (nI q)), (3, .int (nI p9))]) hx hb dX10_fits_67 hl (by decide) rfl (fun ls hl => ?_)
      have lp69_3 : ∀ (fuel : Nat) (j : Nat) (trx : Nat → Bool) (Mx : Mem) (Hx : Heap) (locsx : List Loc) (ls : Array Slot), (sz q - j) < fuel → (j ≤ sz q) → (∀ x, trx x = true ↔ tr x = true ∨ ∃ j9, j9 < j ∧ ftJ sz rl en lst ro te i q 1 p9 gv x j9) → Iv G z ad Mx s Hx locsx → Mx 82 = some (aZ G 384000 (bF trx)) → Mx 83 = some (aI G 3 (oF gv)) → (∀ j : Nat, j ≠ 82 → j ≠ 83 → Mx j = M j) → lv_has ls 9 [(0, .ref (ad 60)), (1, .int (nI i)), (2, .int (nI q)), (3, .int (nI p9)), (4, .int (nI (te (i * 4 + p9)))), (5, .int (nI (6 * q + j)))] → W p l e (headSpec wsX10_fits rm_c_X10_fits_2).room s m ([.ref (ad 60), .int (nI i), .int (nI q), .int (nI p9)] : List Value).toArray below meth c Hx locsx 0 0 Q (F0 m 69 ls []) := by
        intro fuel
        induction fuel with
        | zero => intro j trx Mx Hx locsx ls hfu hj htr hI hm_4 hm_5 hF_7 hl; exact absurd hfu (Nat.not_lt_zero _)
        | succ fuel ih_8 =>
          intro j trx Mx Hx locsx ls hfu hj htr hI hm_4 hm_5 hF_7 hl
          have hm_9 : Mx 60 = some (cModel ad th ln on ao vr sn tp pt zs bg fa) := by rw [hF_7 60 (by omega) (by omega)]; exact h60
          have hm_10 : Mx 68 = some (aI G 121 (nF mz)) := by rw [hF_7 68 (by omega) (by omega)]; exact h68
          have hm_11 : Mx 69 = some (aI G 726 (nF rr)) := by rw [hF_7 69 (by omega) (by omega)]; exact h69
          have hm_12 : Mx 70 = some (aI G 726 (nF ee)) := by rw [hF_7 70 (by omega) (by omega)]; exact h70
          have hm_13 : Mx 71 = some (aI G 40 (nF lst)) := by rw [hF_7 71 (by omega) (by omega)]; exact h71
          have hm_14 : Mx 77 = some (aI G 12 (nF ap)) := by rw [hF_7 77 (by omega) (by omega)]; exact h77
          have hm_15 : Mx 78 = some (aI G 48 pr) := by rw [hF_7 78 (by omega) (by omega)]; exact h78
          have hm_16 : Mx 79 = some (aI G 48 pf) := by rw [hF_7 79 (by omega) (by omega)]; exact h79
          refine lv_iload hx hb dX10_fits_69 (lv_at hl 5 rfl) ?_
          refine lv_bipush (v := nI 6) hx hb dX10_fits_71 (by decide) ?_
          refine lv_iload_n hx hb dX10_fits_73 rfl (lv_at hl 2 rfl) ?_
          refine lv_imul hx hb dX10_fits_74 ?_
          refine n_eq (pk_mul 6 q) ?_
          refine lv_aload_n hx hb dX10_fits_75 rfl (lv_at hl 0 rfl) ?_
          refine h_get (C := RX10) (T := TX10) (N := 38) hx hb hts i_RX10 hown hI hm_9 rfl 8 (by decide) f_36 rfl rfl dX10_fits_76 ?_
          refine lv_iload_n hx hb dX10_fits_79 rfl (lv_at hl 2 rfl) ?_
          refine h_iald (i := q) hx hb hI hm_10 (by omega) (by decide) dX10_fits_80 ?_
          refine n_eq (show _ = nI (sz q) from congrArg nI hmz) ?_
          refine lv_iadd hx hb dX10_fits_81 ?_
          refine n_eq (nI_add (6 * q) (sz q)) ?_
          refine lv_icmp_ge (tgt := 226) hx hb dX10_fits_82 (by decide) (fun c_17 => ?_) (fun c_17 => ?_)
          · -- 82: nI (6 * q + j) ge
            have c_17 : (6 * q) + (sz q) ≤ 6 * q + j := (nI_leI (a := (6 * q) + (sz q)) (b := 6 * q + j) (by omega) (by omega)).mp (c_17)
            subst hQ
            exact e_Nv hx hb hr hlocks hI ⟨trx, hm_4, hm_5, (fun j q0 q1 => hF_7 j q0 q1), (fun x => by rw [htr x, show j = sz q by omega]; exact Iff.rfl)⟩ dX10_fits_226
          · -- 82: nI (6 * q + j) lt
            have c_17 : 6 * q + j < (6 * q) + (sz q) := by have h := mt (nI_leI (a := (6 * q) + (sz q)) (b := 6 * q + j) (by omega) (by omega)).mpr c_17; omega
            obtain ⟨hrj, hej⟩ := hmj j (by omega)
            obtain ⟨hr6, he4⟩ := hje j (by omega)
            refine lv_aload_n hx hb dX10_fits_85 rfl (lv_at hl 0 rfl) ?_
            refine h_get (C := RX10) (T := TX10) (N := 38) hx hb hts i_RX10 hown hI hm_9 rfl 9 (by decide) f_39 rfl rfl dX10_fits_86 ?_
            refine lv_iload hx hb dX10_fits_89 (lv_at hl 5 rfl) ?_
            refine h_iald (i := 6 * q + j) hx hb hI hm_11 (by omega) (by decide) dX10_fits_91 ?_
            refine n_eq (show _ = nI (rl q j) from congrArg nI hrj) ?_
            refine lv_aload_n hx hb dX10_fits_92 rfl (lv_at hl 0 rfl) ?_
            refine h_get (C := RX10) (T := TX10) (N := 38) hx hb hts i_RX10 hown hI hm_9 rfl 20 (by decide) f_66 rfl rfl dX10_fits_93 ?_
            refine lv_iconst (v := nI 4) hx hb dX10_fits_96 (by decide) ?_
            refine lv_iload_n hx hb dX10_fits_97 rfl (lv_at hl 1 rfl) ?_
            refine lv_imul hx hb dX10_fits_98 ?_
            refine n_eq (pk_mul 4 i) ?_
            refine lv_iload_n hx hb dX10_fits_99 rfl (lv_at hl 3 rfl) ?_
            refine lv_iadd hx hb dX10_fits_100 ?_
            refine n_eq (nI_add (4 * i) p9) ?_
            refine h_iald (i := (4 * i) + p9) hx hb hI hm_15 (by omega) (by decide) dX10_fits_101 ?_
            refine n_eq (show _ = nI (ro (i * 4 + p9)) from hpr9) ?_
            refine lv_icmp_ne (tgt := 220) hx hb dX10_fits_102 (by decide) (fun c_18 => ?_) (fun c_18 => ?_)
            · -- 102: nI (rl q j) ne
              have c_18 : rl q j ≠ ro (i * 4 + p9) := by have h := mt (nI_eq (a := rl q j) (b := ro (i * 4 + p9)) (by omega) (by omega)).mpr c_18; omega
              refine lv_iinc (v := nI (6 * q + j + 1)) (lv' := [(5, .int (nI (6 * q + j + 1))), (0, .ref (ad 60)), (1, .int (nI i)), (2, .int (nI q)), (3, .int (nI p9)), (4, .int (nI (te (i * 4 + p9))))]) hx hb dX10_fits_220 hl (k := 5) rfl (nI_add (6 * q + j) 1) (by decide) rfl (fun ls hl => ?_)
              refine lv_goto (tgt := 69) hx hb dX10_fits_223 (by decide) ?_
              exact ih_8 (j + 1) trx Mx Hx locsx ls (by omega) (by omega) (fj_no htr (fun x h9 => absurd h9.1 (by assumption))) hI hm_4 hm_5 (fun j q0 q1 => hF_7 j q0 q1) (lv_sub hl [1, 2, 3, 4, 5, 0] rfl)
            · -- 102: nI (rl q j) eq
              have c_18 : rl q j = ro (i * 4 + p9) := (nI_eq (a := rl q j) (b := ro (i * 4 + p9)) (by omega) (by omega)).mp (c_18)
              refine lv_aload_n hx hb dX10_fits_105 rfl (lv_at hl 0 rfl) ?_
              refine h_get (C := RX10) (T := TX10) (N := 38) hx hb hts i_RX10 hown hI hm_9 rfl 10 (by decide) f_42 rfl rfl dX10_fits_106 ?_
              refine lv_iload hx hb dX10_fits_109 (lv_at hl 5 rfl) ?_
              refine h_iald (i := 6 * q + j) hx hb hI hm_12 (by omega) (by decide) dX10_fits_111 ?_
              refine n_eq (show _ = nI (en q j) from congrArg nI hej) ?_
              refine lv_bipush (v := nI 40) hx hb dX10_fits_112 (by decide) ?_
              refine lv_icmp_lt (tgt := 120) hx hb dX10_fits_114 (by decide) (fun c_19 => ?_) (fun c_19 => ?_)
              · -- 114: nI (en q j) lt
                have c_19 : en q j < 40 := (nI_ltI (a := en q j) (b := 40) (by omega) (by omega)).mp (c_19)
                have hle := hlst (en q j) (by omega)
                refine lv_aload_n hx hb dX10_fits_120 rfl (lv_at hl 0 rfl) ?_
                refine h_get (C := RX10) (T := TX10) (N := 38) hx hb hts i_RX10 hown hI hm_9 rfl 12 (by decide) f_45 rfl rfl dX10_fits_121 ?_
                refine lv_aload_n hx hb dX10_fits_124 rfl (lv_at hl 0 rfl) ?_
                refine h_get (C := RX10) (T := TX10) (N := 38) hx hb hts i_RX10 hown hI hm_9 rfl 10 (by decide) f_42 rfl rfl dX10_fits_125 ?_
                refine lv_iload hx hb dX10_fits_128 (lv_at hl 5 rfl) ?_
                refine h_iald (i := 6 * q + j) hx hb hI hm_12 (by omega) (by decide) dX10_fits_130 ?_
                refine n_eq (show _ = nI (en q j) from congrArg nI hej) ?_
                refine h_iald (i := en q j) hx hb hI hm_13 (by omega) (by decide) dX10_fits_131 ?_
                refine lv_istore (lv' := [(6, .int (nI (lst (en q j)))), (0, .ref (ad 60)), (1, .int (nI i)), (2, .int (nI q)), (3, .int (nI p9)), (4, .int (nI (te (i * 4 + p9)))), (5, .int (nI (6 * q + j)))]) hx hb dX10_fits_132 hl (by decide) rfl (fun ls hl => ?_)
                refine lv_iload hx hb dX10_fits_134 (lv_at hl 5 rfl) ?_
                refine lv_if_lt (tgt := 163) hx hb dX10_fits_136 (by decide) (fun c_20 => ?_) (fun c_20 => ?_)
                · -- 136: nI (te (i * 4 + p9)) lt
                  have c_20 : te (i * 4 + p9) < 0 := (nI_ltI (a := te (i * 4 + p9)) (b := 0) (by omega) (by omega)).mp (c_20)
                  omega
                · -- 136: nI (te (i * 4 + p9)) ge
                  have c_20 : 0 ≤ te (i * 4 + p9) := by have h := mt (nI_ltI (a := te (i * 4 + p9)) (b := 0) (by omega) (by omega)).mpr c_20; omega
                  have hlt9 := hlst (te (i * 4 + p9)) (by omega)
                  refine lv_aload_n hx hb dX10_fits_139 rfl (lv_at hl 1 rfl) ?_
                  refine h_get (C := RX10) (T := TX10) (N := 38) hx hb hts i_RX10 hown hI hm_9 rfl 12 (by decide) f_45 rfl rfl dX10_fits_140 ?_
                  refine lv_iload hx hb dX10_fits_143 (lv_at hl 5 rfl) ?_
                  refine h_iald (i := te (i * 4 + p9)) hx hb hI hm_13 (by omega) (by decide) dX10_fits_145 ?_
                  refine lv_iload hx hb dX10_fits_146 (lv_at hl 0 rfl) ?_
                  refine lv_icmp_ne (tgt := 220) hx hb dX10_fits_148 (by decide) (fun c_21 => ?_) (fun c_21 => ?_)
                  · -- 148: nI (lst (te (i * 4 + p9))) ne
                    have c_21 : lst (te (i * 4 + p9)) ≠ lst (en q j) := by have h := mt (nI_eq (a := lst (te (i * 4 + p9))) (b := lst (en q j)) (by omega) (by omega)).mpr c_21; omega
                    refine lv_iinc (v := nI (6 * q + j + 1)) (lv' := [(5, .int (nI (6 * q + j + 1))), (6, .int (nI (lst (en q j)))), (0, .ref (ad 60)), (1, .int (nI i)), (2, .int (nI q)), (3, .int (nI p9)), (4, .int (nI (te (i * 4 + p9))))]) hx hb dX10_fits_220 hl (k := 6) rfl (nI_add (6 * q + j) 1) (by decide) rfl (fun ls hl => ?_)
                    refine lv_goto (tgt := 69) hx hb dX10_fits_223 (by decide) ?_
                    exact ih_8 (j + 1) trx Mx Hx locsx ls (by omega) (by omega) (fj_no htr (fun x h9 => h9.2.2.elim (fun g9 => absurd g9.2.1 (by assumption)) (fun g9 => absurd g9.1 (by omega)))) hI hm_4 hm_5 (fun j q0 q1 => hF_7 j q0 q1) (lv_sub hl [2, 3, 4, 5, 6, 0] rfl)
                  · -- 148: nI (lst (te (i * 4 + p9))) eq
                    have c_21 : lst (te (i * 4 + p9)) = lst (en q j) := (nI_eq (a := lst (te (i * 4 + p9))) (b := lst (en q j)) (by omega) (by omega)).mp (c_21)
                    refine lv_aload_n hx hb dX10_fits_151 rfl (lv_at hl 1 rfl) ?_
                    refine lv_iload_n hx hb dX10_fits_152 rfl (lv_at hl 2 rfl) ?_
                    refine lv_iload_n hx hb dX10_fits_153 rfl (lv_at hl 3 rfl) ?_
                    refine lv_iload_n hx hb dX10_fits_154 rfl (lv_at hl 4 rfl) ?_
                    refine lv_iconst (v := nI 1) hx hb dX10_fits_155 (by decide) ?_
                    refine lv_iadd hx hb dX10_fits_156 ?_
                    refine n_eq (nI_add p9 1) ?_
                    refine k_Nv (va_runV (As := [.int (nI i), .int (nI q), .int (nI (p9 + 1))]) (rest := []) ⟨hx, hb, hml, hown, hts⟩ (c_X10_fits_1 l G z ad Mx (th := th) (ln := ln) (on := on) (ao := ao) (vr := vr) (sn := sn) (tp := tp) (pt := pt) (zs := zs) (bg := bg) (fa := fa) (n := n) (kd := kd) (fm := fm) (to := to) (sz := sz) (rl := rl) (en := en) (mk := mk) (mf := mf) (mu := mu) (mz := mz) (rr := rr) (ee := ee) (lst := lst) (ap := ap) (pr := pr) (pf := pf) (ro := ro) (te := te) (tr := trx) (gv := gv) (i := i) (q := q) (p9 := p9 + 1) hm_9 hm_10 hm_11 hm_12 hm_13 hm_14 hm_15 hm_16 hm_4 hm_5 hw hmr (by omega) (by omega) (by omega) hpp hgv hlst (by omega)) (cwV 3 hts (gV (lwg_of t_1331 rfl) (lwg_of t_1333 rfl) (lwg_of ts_41 rfl) (lwg_of t_13 rfl) (lwg_of t_1334 rfl)) rfl rfl rfl (by decide +kernel) ⟨Nat.le_of_ble_eq_true rfl, Nat.le_of_ble_eq_true rfl⟩) (hI.preV hm_9 rfl) rfl rfl hl.1 rfl (lv_room (Nat.le_of_ble_eq_true rfl)) dX10_fits_157 ⟨Nat.le_of_ble_eq_true rfl, Nat.le_of_ble_eq_true rfl⟩) hI (fun M_24 H_25 locs_26 hp_23 hI => ?_)
                    obtain ⟨tr2_31, hm_27, hm_28, hF_29, hP_30⟩ := hp_23
                    have hm_32 : M_24 60 = some (cModel ad th ln on ao vr sn tp pt zs bg fa) := by rw [hF_29 60 (by omega) (by omega)]; exact hm_9
                    have hm_33 : M_24 68 = some (aI G 121 (nF mz)) := by rw [hF_29 68 (by omega) (by omega)]; exact hm_10
                    have hm_34 : M_24 69 = some (aI G 726 (nF rr)) := by rw [hF_29 69 (by omega) (by omega)]; exact hm_11
                    have hm_35 : M_24 70 = some (aI G 726 (nF ee)) := by rw [hF_29 70 (by omega) (by omega)]; exact hm_12
                    have hm_36 : M_24 71 = some (aI G 40 (nF lst)) := by rw [hF_29 71 (by omega) (by omega)]; exact hm_13
                    have hm_37 : M_24 77 = some (aI G 12 (nF ap)) := by rw [hF_29 77 (by omega) (by omega)]; exact hm_14
                    have hm_38 : M_24 78 = some (aI G 48 pr) := by rw [hF_29 78 (by omega) (by omega)]; exact hm_15
                    have hm_39 : M_24 79 = some (aI G 48 pf) := by rw [hF_29 79 (by omega) (by omega)]; exact hm_16
                    have hF_40 : ∀ j : Nat, j ≠ 82 → j ≠ 83 → M_24 j = M j := fun j q0 q1 => (hF_29 j q0 q1).trans (hF_7 j q0 q1)
                    refine lv_goto (tgt := 220) hx hb dX10_fits_160 (by decide) ?_
                    refine lv_iinc (v := nI (6 * q + j + 1)) (lv' := [(5, .int (nI (6 * q + j + 1))), (6, .int (nI (lst (en q j)))), (0, .ref (ad 60)), (1, .int (nI i)), (2, .int (nI q)), (3, .int (nI p9)), (4, .int (nI (te (i * 4 + p9))))]) hx hb dX10_fits_220 hl (k := 6) rfl (nI_add (6 * q + j) 1) (by decide) rfl (fun ls hl => ?_)
                    refine lv_goto (tgt := 69) hx hb dX10_fits_223 (by decide) ?_
                    exact ih_8 (j + 1) tr2_31 M_24 H_25 locs_26 ls (by omega) (by omega) (fj_yes htr hP_30 (fun x => ⟨fun h9 => h9.2.2.elim (fun g9 => g9.2.2) (fun g9 => absurd g9.1 (by omega)), fun f9 => ⟨by assumption, by assumption, Or.inl ⟨by omega, by assumption, f9⟩⟩⟩)) hI hm_27 hm_28 (fun j q0 q1 => hF_40 j q0 q1) (lv_sub hl [2, 3, 4, 5, 6, 0] rfl)
              · -- 114: nI (en q j) ge
                have c_19 : 40 ≤ en q j := by have h := mt (nI_ltI (a := en q j) (b := 40) (by omega) (by omega)).mpr c_19; omega
                refine lv_goto (tgt := 220) hx hb dX10_fits_117 (by decide) ?_
                refine lv_iinc (v := nI (6 * q + j + 1)) (lv' := [(5, .int (nI (6 * q + j + 1))), (0, .ref (ad 60)), (1, .int (nI i)), (2, .int (nI q)), (3, .int (nI p9)), (4, .int (nI (te (i * 4 + p9))))]) hx hb dX10_fits_220 hl (k := 5) rfl (nI_add (6 * q + j) 1) (by decide) rfl (fun ls hl => ?_)
                refine lv_goto (tgt := 69) hx hb dX10_fits_223 (by decide) ?_
                exact ih_8 (j + 1) trx Mx Hx locsx ls (by omega) (by omega) (fj_no htr (fun x h9 => absurd h9.2.1 (by omega))) hI hm_4 hm_5 (fun j q0 q1 => hF_7 j q0 q1) (lv_sub hl [1, 2, 3, 4, 5, 0] rfl)
      exact lp69_3 ((sz q - 0) + 1) 0 tr M s.heap [] ls (Nat.lt_succ_self _) (by omega) (fun x => ⟨Or.inl, fun h9 => h9.elim id (fun ⟨k9, h8, _⟩ => absurd h8 (Nat.not_lt_zero k9))⟩) hI h82 h83 (fun j _ _ => rfl) (lv_sub hl [2, 3, 4, 5, 1, 0] rfl)
    · skip
      refine h_iald (i := (4 * i) + p9) hx hb hI h79 (by omega) (by decide) dX10_fits_60 ?_
      refine n_eq (show _ = tmI (te (i * 4 + p9)) from hpf9) ?_
      refine lv_istore (lv' := [(4, .int (tmI (te (i * 4 + p9)))), (0, .ref (ad 60)), (1, .int (nI i)), (2, .int (nI q)), (3, .int (nI p9))]) hx hb dX10_fits_61 hl (by decide) rfl (fun ls hl => ?_)
      refine lv_bipush (v := nI 6) hx hb dX10_fits_63 (by decide) ?_
      refine lv_iload_n hx hb dX10_fits_65 rfl (lv_at hl 3 rfl) ?_
      refine lv_imul hx hb dX10_fits_66 ?_
      refine n_eq (pk_mul 6 q) ?_
      refine lv_istore (lv' := [(5, .int (nI (6 * q))), (4, .int (tmI (te (i * 4 + p9)))), (0, .ref (ad 60)), (1, .int (nI i)), (2, .int (nI q)), (3, .int (nI p9))]) hx hb dX10_fits_67 hl (by decide) rfl (fun ls hl => ?_)
      have lp69_41 : ∀ (fuel : Nat) (j : Nat) (trx : Nat → Bool) (Mx : Mem) (Hx : Heap) (locsx : List Loc) (ls : Array Slot), (sz q - j) < fuel → (j ≤ sz q) → (∀ x, trx x = true ↔ tr x = true ∨ ∃ j9, j9 < j ∧ ftJ sz rl en lst ro te i q 1 p9 gv x j9) → Iv G z ad Mx s Hx locsx → Mx 82 = some (aZ G 384000 (bF trx)) → Mx 83 = some (aI G 3 (oF gv)) → (∀ j : Nat, j ≠ 82 → j ≠ 83 → Mx j = M j) → lv_has ls 9 [(0, .ref (ad 60)), (1, .int (nI i)), (2, .int (nI q)), (3, .int (nI p9)), (4, .int (tmI (te (i * 4 + p9)))), (5, .int (nI (6 * q + j)))] → W p l e (headSpec wsX10_fits rm_c_X10_fits_2).room s m ([.ref (ad 60), .int (nI i), .int (nI q), .int (nI p9)] : List Value).toArray below meth c Hx locsx 0 0 Q (F0 m 69 ls []) := by
        intro fuel
        induction fuel with
        | zero => intro j trx Mx Hx locsx ls hfu hj htr hI hm_42 hm_43 hF_45 hl; exact absurd hfu (Nat.not_lt_zero _)
        | succ fuel ih_46 =>
          intro j trx Mx Hx locsx ls hfu hj htr hI hm_42 hm_43 hF_45 hl
          have hm_47 : Mx 60 = some (cModel ad th ln on ao vr sn tp pt zs bg fa) := by rw [hF_45 60 (by omega) (by omega)]; exact h60
          have hm_48 : Mx 68 = some (aI G 121 (nF mz)) := by rw [hF_45 68 (by omega) (by omega)]; exact h68
          have hm_49 : Mx 69 = some (aI G 726 (nF rr)) := by rw [hF_45 69 (by omega) (by omega)]; exact h69
          have hm_50 : Mx 70 = some (aI G 726 (nF ee)) := by rw [hF_45 70 (by omega) (by omega)]; exact h70
          have hm_51 : Mx 71 = some (aI G 40 (nF lst)) := by rw [hF_45 71 (by omega) (by omega)]; exact h71
          have hm_52 : Mx 77 = some (aI G 12 (nF ap)) := by rw [hF_45 77 (by omega) (by omega)]; exact h77
          have hm_53 : Mx 78 = some (aI G 48 pr) := by rw [hF_45 78 (by omega) (by omega)]; exact h78
          have hm_54 : Mx 79 = some (aI G 48 pf) := by rw [hF_45 79 (by omega) (by omega)]; exact h79
          refine lv_iload hx hb dX10_fits_69 (lv_at hl 5 rfl) ?_
          refine lv_bipush (v := nI 6) hx hb dX10_fits_71 (by decide) ?_
          refine lv_iload_n hx hb dX10_fits_73 rfl (lv_at hl 2 rfl) ?_
          refine lv_imul hx hb dX10_fits_74 ?_
          refine n_eq (pk_mul 6 q) ?_
          refine lv_aload_n hx hb dX10_fits_75 rfl (lv_at hl 0 rfl) ?_
          refine h_get (C := RX10) (T := TX10) (N := 38) hx hb hts i_RX10 hown hI hm_47 rfl 8 (by decide) f_36 rfl rfl dX10_fits_76 ?_
          refine lv_iload_n hx hb dX10_fits_79 rfl (lv_at hl 2 rfl) ?_
          refine h_iald (i := q) hx hb hI hm_48 (by omega) (by decide) dX10_fits_80 ?_
          refine n_eq (show _ = nI (sz q) from congrArg nI hmz) ?_
          refine lv_iadd hx hb dX10_fits_81 ?_
          refine n_eq (nI_add (6 * q) (sz q)) ?_
          refine lv_icmp_ge (tgt := 226) hx hb dX10_fits_82 (by decide) (fun c_55 => ?_) (fun c_55 => ?_)
          · -- 82: nI (6 * q + j) ge
            have c_55 : (6 * q) + (sz q) ≤ 6 * q + j := (nI_leI (a := (6 * q) + (sz q)) (b := 6 * q + j) (by omega) (by omega)).mp (c_55)
            subst hQ
            exact e_Nv hx hb hr hlocks hI ⟨trx, hm_42, hm_43, (fun j q0 q1 => hF_45 j q0 q1), (fun x => by rw [htr x, show j = sz q by omega]; exact Iff.rfl)⟩ dX10_fits_226
          · -- 82: nI (6 * q + j) lt
            have c_55 : 6 * q + j < (6 * q) + (sz q) := by have h := mt (nI_leI (a := (6 * q) + (sz q)) (b := 6 * q + j) (by omega) (by omega)).mpr c_55; omega
            obtain ⟨hrj, hej⟩ := hmj j (by omega)
            obtain ⟨hr6, he4⟩ := hje j (by omega)
            refine lv_aload_n hx hb dX10_fits_85 rfl (lv_at hl 0 rfl) ?_
            refine h_get (C := RX10) (T := TX10) (N := 38) hx hb hts i_RX10 hown hI hm_47 rfl 9 (by decide) f_39 rfl rfl dX10_fits_86 ?_
            refine lv_iload hx hb dX10_fits_89 (lv_at hl 5 rfl) ?_
            refine h_iald (i := 6 * q + j) hx hb hI hm_49 (by omega) (by decide) dX10_fits_91 ?_
            refine n_eq (show _ = nI (rl q j) from congrArg nI hrj) ?_
            refine lv_aload_n hx hb dX10_fits_92 rfl (lv_at hl 0 rfl) ?_
            refine h_get (C := RX10) (T := TX10) (N := 38) hx hb hts i_RX10 hown hI hm_47 rfl 20 (by decide) f_66 rfl rfl dX10_fits_93 ?_
            refine lv_iconst (v := nI 4) hx hb dX10_fits_96 (by decide) ?_
            refine lv_iload_n hx hb dX10_fits_97 rfl (lv_at hl 1 rfl) ?_
            refine lv_imul hx hb dX10_fits_98 ?_
            refine n_eq (pk_mul 4 i) ?_
            refine lv_iload_n hx hb dX10_fits_99 rfl (lv_at hl 3 rfl) ?_
            refine lv_iadd hx hb dX10_fits_100 ?_
            refine n_eq (nI_add (4 * i) p9) ?_
            refine h_iald (i := (4 * i) + p9) hx hb hI hm_53 (by omega) (by decide) dX10_fits_101 ?_
            refine n_eq (show _ = nI (ro (i * 4 + p9)) from hpr9) ?_
            refine lv_icmp_ne (tgt := 220) hx hb dX10_fits_102 (by decide) (fun c_56 => ?_) (fun c_56 => ?_)
            · -- 102: nI (rl q j) ne
              have c_56 : rl q j ≠ ro (i * 4 + p9) := by have h := mt (nI_eq (a := rl q j) (b := ro (i * 4 + p9)) (by omega) (by omega)).mpr c_56; omega
              refine lv_iinc (v := nI (6 * q + j + 1)) (lv' := [(5, .int (nI (6 * q + j + 1))), (0, .ref (ad 60)), (1, .int (nI i)), (2, .int (nI q)), (3, .int (nI p9)), (4, .int (tmI (te (i * 4 + p9))))]) hx hb dX10_fits_220 hl (k := 5) rfl (nI_add (6 * q + j) 1) (by decide) rfl (fun ls hl => ?_)
              refine lv_goto (tgt := 69) hx hb dX10_fits_223 (by decide) ?_
              exact ih_46 (j + 1) trx Mx Hx locsx ls (by omega) (by omega) (fj_no htr (fun x h9 => absurd h9.1 (by assumption))) hI hm_42 hm_43 (fun j q0 q1 => hF_45 j q0 q1) (lv_sub hl [1, 2, 3, 4, 5, 0] rfl)
            · -- 102: nI (rl q j) eq
              have c_56 : rl q j = ro (i * 4 + p9) := (nI_eq (a := rl q j) (b := ro (i * 4 + p9)) (by omega) (by omega)).mp (c_56)
              refine lv_aload_n hx hb dX10_fits_105 rfl (lv_at hl 0 rfl) ?_
              refine h_get (C := RX10) (T := TX10) (N := 38) hx hb hts i_RX10 hown hI hm_47 rfl 10 (by decide) f_42 rfl rfl dX10_fits_106 ?_
              refine lv_iload hx hb dX10_fits_109 (lv_at hl 5 rfl) ?_
              refine h_iald (i := 6 * q + j) hx hb hI hm_50 (by omega) (by decide) dX10_fits_111 ?_
              refine n_eq (show _ = nI (en q j) from congrArg nI hej) ?_
              refine lv_bipush (v := nI 40) hx hb dX10_fits_112 (by decide) ?_
              refine lv_icmp_lt (tgt := 120) hx hb dX10_fits_114 (by decide) (fun c_57 => ?_) (fun c_57 => ?_)
              · -- 114: nI (en q j) lt
                have c_57 : en q j < 40 := (nI_ltI (a := en q j) (b := 40) (by omega) (by omega)).mp (c_57)
                have hle := hlst (en q j) (by omega)
                refine lv_aload_n hx hb dX10_fits_120 rfl (lv_at hl 0 rfl) ?_
                refine h_get (C := RX10) (T := TX10) (N := 38) hx hb hts i_RX10 hown hI hm_47 rfl 12 (by decide) f_45 rfl rfl dX10_fits_121 ?_
                refine lv_aload_n hx hb dX10_fits_124 rfl (lv_at hl 0 rfl) ?_
                refine h_get (C := RX10) (T := TX10) (N := 38) hx hb hts i_RX10 hown hI hm_47 rfl 10 (by decide) f_42 rfl rfl dX10_fits_125 ?_
                refine lv_iload hx hb dX10_fits_128 (lv_at hl 5 rfl) ?_
                refine h_iald (i := 6 * q + j) hx hb hI hm_50 (by omega) (by decide) dX10_fits_130 ?_
                refine n_eq (show _ = nI (en q j) from congrArg nI hej) ?_
                refine h_iald (i := en q j) hx hb hI hm_51 (by omega) (by decide) dX10_fits_131 ?_
                refine lv_istore (lv' := [(6, .int (nI (lst (en q j)))), (0, .ref (ad 60)), (1, .int (nI i)), (2, .int (nI q)), (3, .int (nI p9)), (4, .int (tmI (te (i * 4 + p9)))), (5, .int (nI (6 * q + j)))]) hx hb dX10_fits_132 hl (by decide) rfl (fun ls hl => ?_)
                refine lv_iload hx hb dX10_fits_134 (lv_at hl 5 rfl) ?_
                refine lv_if_lt (tgt := 163) hx hb dX10_fits_136 (by decide) (fun c_58 => ?_) (fun c_58 => ?_)
                · -- 136: tmI (te (i * 4 + p9)) lt
                  refine lv_iconst (v := (-1)) hx hb dX10_fits_163 (by decide) ?_
                  refine lv_iload hx hb dX10_fits_164 (lv_at hl 5 rfl) ?_
                  refine lv_isub hx hb dX10_fits_166 ?_
                  refine n_eq (show _ = nI (te (i * 4 + p9) - 40) from tm_v _ h43 (by omega)) ?_
                  refine lv_istore (lv' := [(7, .int (nI (te (i * 4 + p9) - 40))), (6, .int (nI (lst (en q j)))), (0, .ref (ad 60)), (1, .int (nI i)), (2, .int (nI q)), (3, .int (nI p9)), (4, .int (tmI (te (i * 4 + p9)))), (5, .int (nI (6 * q + j)))]) hx hb dX10_fits_167 hl (by decide) rfl (fun ls hl => ?_)
                  refine lv_aload_n hx hb dX10_fits_169 rfl (lv_at hl 2 rfl) ?_
                  refine h_get (C := RX10) (T := TX10) (N := 38) hx hb hts i_RX10 hown hI hm_47 rfl 33 (by decide) f_86 rfl rfl dX10_fits_170 ?_
                  refine lv_iload hx hb dX10_fits_173 (lv_at hl 0 rfl) ?_
                  refine h_iald (i := te (i * 4 + p9) - 40) hx hb hI hm_43 (by omega) (by decide) dX10_fits_175 ?_
                  refine lv_istore (lv' := [(8, .int (oI (gv (te (i * 4 + p9) - 40)))), (7, .int (nI (te (i * 4 + p9) - 40))), (6, .int (nI (lst (en q j)))), (0, .ref (ad 60)), (1, .int (nI i)), (2, .int (nI q)), (3, .int (nI p9)), (4, .int (tmI (te (i * 4 + p9)))), (5, .int (nI (6 * q + j)))]) hx hb dX10_fits_176 hl (by decide) rfl (fun ls hl => ?_)
                  have hgd := gz_lt (hgv (te (i * 4 + p9) - 40) (by omega))
                  by_cases hc_59 : gv (te (i * 4 + p9) - 40) = none
                  · skip
                    refine lv_iload hx hb dX10_fits_178 (lv_at hl 0 rfl) ?_
                    refine n_eq (show _ = (-1) from congrArg oI hc_59) ?_
                    refine lv_if_lt (tgt := 193) hx hb dX10_fits_180 (by decide) (fun c_60 => ?_) (fun c_60 => ?_)
                    · -- 180: (-1) lt
                      refine lv_aload_n hx hb dX10_fits_193 rfl (lv_at hl 3 rfl) ?_
                      refine h_get (C := RX10) (T := TX10) (N := 38) hx hb hts i_RX10 hown hI hm_47 rfl 33 (by decide) f_86 rfl rfl dX10_fits_194 ?_
                      refine lv_iload hx hb dX10_fits_197 (lv_at hl 1 rfl) ?_
                      refine lv_iload hx hb dX10_fits_199 (lv_at hl 2 rfl) ?_
                      refine h_iast (i := te (i * 4 + p9) - 40) (x := nI (lst (en q j))) hx hb hI hm_43 (by omega) (by decide) dX10_fits_201 (fun M_61 H_62 locs_63 eM_64 hI => ?_)
                      rw [upd_oF_n] at eM_64
                      have hm_65 : M_61 60 = some (cModel ad th ln on ao vr sn tp pt zs bg fa) := by rw [eM_64, va_up_ne _ _ (by decide)]; exact hm_47
                      have hm_66 : M_61 68 = some (aI G 121 (nF mz)) := by rw [eM_64, va_up_ne _ _ (by decide)]; exact hm_48
                      have hm_67 : M_61 69 = some (aI G 726 (nF rr)) := by rw [eM_64, va_up_ne _ _ (by decide)]; exact hm_49
                      have hm_68 : M_61 70 = some (aI G 726 (nF ee)) := by rw [eM_64, va_up_ne _ _ (by decide)]; exact hm_50
                      have hm_69 : M_61 71 = some (aI G 40 (nF lst)) := by rw [eM_64, va_up_ne _ _ (by decide)]; exact hm_51
                      have hm_70 : M_61 77 = some (aI G 12 (nF ap)) := by rw [eM_64, va_up_ne _ _ (by decide)]; exact hm_52
                      have hm_71 : M_61 78 = some (aI G 48 pr) := by rw [eM_64, va_up_ne _ _ (by decide)]; exact hm_53
                      have hm_72 : M_61 79 = some (aI G 48 pf) := by rw [eM_64, va_up_ne _ _ (by decide)]; exact hm_54
                      have hm_73 : M_61 82 = some (aZ G 384000 (bF trx)) := by rw [eM_64, va_up_ne _ _ (by decide)]; exact hm_42
                      have hm_74 : M_61 83 = some (aI G 3 (oF (va_up gv (te (i * 4 + p9) - 40) (some (lst (en q j)))))) := by rw [eM_64]; exact va_up_self _ _ _
                      have hF_75 : ∀ j : Nat, j ≠ 82 → j ≠ 83 → M_61 j = M j := fun j q0 q1 => by rw [eM_64, va_up_ne _ _ q1]; exact hF_45 j q0 q1
                      refine lv_aload_n hx hb dX10_fits_202 rfl (lv_at hl 3 rfl) ?_
                      refine lv_iload_n hx hb dX10_fits_203 rfl (lv_at hl 4 rfl) ?_
                      refine lv_iload_n hx hb dX10_fits_204 rfl (lv_at hl 5 rfl) ?_
                      refine lv_iload_n hx hb dX10_fits_205 rfl (lv_at hl 6 rfl) ?_
                      refine lv_iconst (v := nI 1) hx hb dX10_fits_206 (by decide) ?_
                      refine lv_iadd hx hb dX10_fits_207 ?_
                      refine n_eq (nI_add p9 1) ?_
                      refine k_Nv (va_runV (As := [.int (nI i), .int (nI q), .int (nI (p9 + 1))]) (rest := []) ⟨hx, hb, hml, hown, hts⟩ (c_X10_fits_1 l G z ad M_61 (th := th) (ln := ln) (on := on) (ao := ao) (vr := vr) (sn := sn) (tp := tp) (pt := pt) (zs := zs) (bg := bg) (fa := fa) (n := n) (kd := kd) (fm := fm) (to := to) (sz := sz) (rl := rl) (en := en) (mk := mk) (mf := mf) (mu := mu) (mz := mz) (rr := rr) (ee := ee) (lst := lst) (ap := ap) (pr := pr) (pf := pf) (ro := ro) (te := te) (tr := trx) (gv := (va_up gv (te (i * 4 + p9) - 40) (some (lst (en q j))))) (i := i) (q := q) (p9 := p9 + 1) hm_65 hm_66 hm_67 hm_68 hm_69 hm_70 hm_71 hm_72 hm_73 hm_74 hw hmr (by omega) (by omega) (by omega) hpp (gv_up hgv hle) hlst (by omega)) (cwV 3 hts (gV (lwg_of t_1331 rfl) (lwg_of t_1333 rfl) (lwg_of ts_41 rfl) (lwg_of t_13 rfl) (lwg_of t_1334 rfl)) rfl rfl rfl (by decide +kernel) ⟨Nat.le_of_ble_eq_true rfl, Nat.le_of_ble_eq_true rfl⟩) (hI.preV hm_65 rfl) rfl rfl hl.1 rfl (lv_room (Nat.le_of_ble_eq_true rfl)) dX10_fits_208 ⟨Nat.le_of_ble_eq_true rfl, Nat.le_of_ble_eq_true rfl⟩) hI (fun M_78 H_79 locs_80 hp_77 hI => ?_)
                      obtain ⟨tr2_85, hm_81, hm_82, hF_83, hP_84⟩ := hp_77
                      have hm_86 : M_78 60 = some (cModel ad th ln on ao vr sn tp pt zs bg fa) := by rw [hF_83 60 (by omega) (by omega)]; exact hm_65
                      have hm_87 : M_78 68 = some (aI G 121 (nF mz)) := by rw [hF_83 68 (by omega) (by omega)]; exact hm_66
                      have hm_88 : M_78 69 = some (aI G 726 (nF rr)) := by rw [hF_83 69 (by omega) (by omega)]; exact hm_67
                      have hm_89 : M_78 70 = some (aI G 726 (nF ee)) := by rw [hF_83 70 (by omega) (by omega)]; exact hm_68
                      have hm_90 : M_78 71 = some (aI G 40 (nF lst)) := by rw [hF_83 71 (by omega) (by omega)]; exact hm_69
                      have hm_91 : M_78 77 = some (aI G 12 (nF ap)) := by rw [hF_83 77 (by omega) (by omega)]; exact hm_70
                      have hm_92 : M_78 78 = some (aI G 48 pr) := by rw [hF_83 78 (by omega) (by omega)]; exact hm_71
                      have hm_93 : M_78 79 = some (aI G 48 pf) := by rw [hF_83 79 (by omega) (by omega)]; exact hm_72
                      have hF_94 : ∀ j : Nat, j ≠ 82 → j ≠ 83 → M_78 j = M j := fun j q0 q1 => (hF_83 j q0 q1).trans (hF_75 j q0 q1)
                      refine lv_aload_n hx hb dX10_fits_211 rfl (lv_at hl 3 rfl) ?_
                      refine h_get (C := RX10) (T := TX10) (N := 38) hx hb hts i_RX10 hown hI hm_86 rfl 33 (by decide) f_86 rfl rfl dX10_fits_212 ?_
                      refine lv_iload hx hb dX10_fits_215 (lv_at hl 1 rfl) ?_
                      refine lv_iload hx hb dX10_fits_217 (lv_at hl 0 rfl) ?_
                      refine h_iast (i := te (i * 4 + p9) - 40) (x := oI (gv (te (i * 4 + p9) - 40))) hx hb hI hm_82 (by omega) (by decide) dX10_fits_219 (fun M_95 H_96 locs_97 eM_98 hI => ?_)
                      rw [upd_oF] at eM_98
                      have hm_99 : M_95 60 = some (cModel ad th ln on ao vr sn tp pt zs bg fa) := by rw [eM_98, va_up_ne _ _ (by decide)]; exact hm_86
                      have hm_100 : M_95 68 = some (aI G 121 (nF mz)) := by rw [eM_98, va_up_ne _ _ (by decide)]; exact hm_87
                      have hm_101 : M_95 69 = some (aI G 726 (nF rr)) := by rw [eM_98, va_up_ne _ _ (by decide)]; exact hm_88
                      have hm_102 : M_95 70 = some (aI G 726 (nF ee)) := by rw [eM_98, va_up_ne _ _ (by decide)]; exact hm_89
                      have hm_103 : M_95 71 = some (aI G 40 (nF lst)) := by rw [eM_98, va_up_ne _ _ (by decide)]; exact hm_90
                      have hm_104 : M_95 77 = some (aI G 12 (nF ap)) := by rw [eM_98, va_up_ne _ _ (by decide)]; exact hm_91
                      have hm_105 : M_95 78 = some (aI G 48 pr) := by rw [eM_98, va_up_ne _ _ (by decide)]; exact hm_92
                      have hm_106 : M_95 79 = some (aI G 48 pf) := by rw [eM_98, va_up_ne _ _ (by decide)]; exact hm_93
                      have hm_107 : M_95 82 = some (aZ G 384000 (bF tr2_85)) := by rw [eM_98, va_up_ne _ _ (by decide)]; exact hm_81
                      have hm_108 : M_95 83 = some (aI G 3 (oF (va_up (va_up gv (te (i * 4 + p9) - 40) (some (lst (en q j)))) (te (i * 4 + p9) - 40) (gv (te (i * 4 + p9) - 40))))) := by rw [eM_98]; exact va_up_self _ _ _
                      have hF_109 : ∀ j : Nat, j ≠ 82 → j ≠ 83 → M_95 j = M j := fun j q0 q1 => by rw [eM_98, va_up_ne _ _ q1]; exact hF_94 j q0 q1
                      rw [va_back] at hm_108
                      refine lv_iinc (v := nI (6 * q + j + 1)) (lv' := [(5, .int (nI (6 * q + j + 1))), (8, .int (oI (gv (te (i * 4 + p9) - 40)))), (7, .int (nI (te (i * 4 + p9) - 40))), (6, .int (nI (lst (en q j)))), (0, .ref (ad 60)), (1, .int (nI i)), (2, .int (nI q)), (3, .int (nI p9)), (4, .int (tmI (te (i * 4 + p9))))]) hx hb dX10_fits_220 hl (k := 8) rfl (nI_add (6 * q + j) 1) (by decide) rfl (fun ls hl => ?_)
                      refine lv_goto (tgt := 69) hx hb dX10_fits_223 (by decide) ?_
                      exact ih_46 (j + 1) tr2_85 M_95 H_96 locs_97 ls (by omega) (by omega) (fj_yes htr hP_84 (fun x => ⟨fun h9 => h9.2.2.elim (fun g9 => absurd g9.1 (by omega)) (fun g9 => g9.2.2), fun f9 => ⟨by assumption, by assumption, Or.inr ⟨by omega, Or.inl hc_59, f9⟩⟩⟩)) hI hm_107 hm_108 (fun j q0 q1 => hF_109 j q0 q1) (lv_sub hl [4, 5, 6, 7, 8, 0] rfl)
                    · -- 180: (-1) ge
                      exact absurd (by decide) c_60
                  · skip
                    refine lv_iload hx hb dX10_fits_178 (lv_at hl 0 rfl) ?_
                    refine n_eq (show _ = nI ((gv (te (i * 4 + p9) - 40)).getD 0) from o_some hc_59) ?_
                    refine lv_if_lt (tgt := 193) hx hb dX10_fits_180 (by decide) (fun c_110 => ?_) (fun c_110 => ?_)
                    · -- 180: nI ((gv (te (i * 4 + p9) - 40)).getD 0) lt
                      have c_110 : (gv (te (i * 4 + p9) - 40)).getD 0 < 0 := (nI_ltI (a := (gv (te (i * 4 + p9) - 40)).getD 0) (b := 0) (by omega) (by omega)).mp (c_110)
                      omega
                    · -- 180: nI ((gv (te (i * 4 + p9) - 40)).getD 0) ge
                      have c_110 : 0 ≤ (gv (te (i * 4 + p9) - 40)).getD 0 := by have h := mt (nI_ltI (a := (gv (te (i * 4 + p9) - 40)).getD 0) (b := 0) (by omega) (by omega)).mpr c_110; omega
                      refine lv_iload hx hb dX10_fits_183 (lv_at hl 0 rfl) ?_
                      refine n_eq (show _ = nI ((gv (te (i * 4 + p9) - 40)).getD 0) from o_some hc_59) ?_
                      refine lv_iload hx hb dX10_fits_185 (lv_at hl 2 rfl) ?_
                      refine lv_icmp_eq (tgt := 193) hx hb dX10_fits_187 (by decide) (fun c_111 => ?_) (fun c_111 => ?_)
                      · -- 187: nI ((gv (te (i * 4 + p9) - 40)).getD 0) eq
                        have c_111 : (gv (te (i * 4 + p9) - 40)).getD 0 = lst (en q j) := (nI_eq (a := (gv (te (i * 4 + p9) - 40)).getD 0) (b := lst (en q j)) (by omega) (by omega)).mp (c_111)
                        refine lv_aload_n hx hb dX10_fits_193 rfl (lv_at hl 3 rfl) ?_
                        refine h_get (C := RX10) (T := TX10) (N := 38) hx hb hts i_RX10 hown hI hm_47 rfl 33 (by decide) f_86 rfl rfl dX10_fits_194 ?_
                        refine lv_iload hx hb dX10_fits_197 (lv_at hl 1 rfl) ?_
                        refine lv_iload hx hb dX10_fits_199 (lv_at hl 2 rfl) ?_
                        refine h_iast (i := te (i * 4 + p9) - 40) (x := nI (lst (en q j))) hx hb hI hm_43 (by omega) (by decide) dX10_fits_201 (fun M_112 H_113 locs_114 eM_115 hI => ?_)
                        rw [upd_oF_n] at eM_115
                        have hm_116 : M_112 60 = some (cModel ad th ln on ao vr sn tp pt zs bg fa) := by rw [eM_115, va_up_ne _ _ (by decide)]; exact hm_47
                        have hm_117 : M_112 68 = some (aI G 121 (nF mz)) := by rw [eM_115, va_up_ne _ _ (by decide)]; exact hm_48
                        have hm_118 : M_112 69 = some (aI G 726 (nF rr)) := by rw [eM_115, va_up_ne _ _ (by decide)]; exact hm_49
                        have hm_119 : M_112 70 = some (aI G 726 (nF ee)) := by rw [eM_115, va_up_ne _ _ (by decide)]; exact hm_50
                        have hm_120 : M_112 71 = some (aI G 40 (nF lst)) := by rw [eM_115, va_up_ne _ _ (by decide)]; exact hm_51
                        have hm_121 : M_112 77 = some (aI G 12 (nF ap)) := by rw [eM_115, va_up_ne _ _ (by decide)]; exact hm_52
                        have hm_122 : M_112 78 = some (aI G 48 pr) := by rw [eM_115, va_up_ne _ _ (by decide)]; exact hm_53
                        have hm_123 : M_112 79 = some (aI G 48 pf) := by rw [eM_115, va_up_ne _ _ (by decide)]; exact hm_54
                        have hm_124 : M_112 82 = some (aZ G 384000 (bF trx)) := by rw [eM_115, va_up_ne _ _ (by decide)]; exact hm_42
                        have hm_125 : M_112 83 = some (aI G 3 (oF (va_up gv (te (i * 4 + p9) - 40) (some (lst (en q j)))))) := by rw [eM_115]; exact va_up_self _ _ _
                        have hF_126 : ∀ j : Nat, j ≠ 82 → j ≠ 83 → M_112 j = M j := fun j q0 q1 => by rw [eM_115, va_up_ne _ _ q1]; exact hF_45 j q0 q1
                        refine lv_aload_n hx hb dX10_fits_202 rfl (lv_at hl 3 rfl) ?_
                        refine lv_iload_n hx hb dX10_fits_203 rfl (lv_at hl 4 rfl) ?_
                        refine lv_iload_n hx hb dX10_fits_204 rfl (lv_at hl 5 rfl) ?_
                        refine lv_iload_n hx hb dX10_fits_205 rfl (lv_at hl 6 rfl) ?_
                        refine lv_iconst (v := nI 1) hx hb dX10_fits_206 (by decide) ?_
                        refine lv_iadd hx hb dX10_fits_207 ?_
                        refine n_eq (nI_add p9 1) ?_
                        refine k_Nv (va_runV (As := [.int (nI i), .int (nI q), .int (nI (p9 + 1))]) (rest := []) ⟨hx, hb, hml, hown, hts⟩ (c_X10_fits_1 l G z ad M_112 (th := th) (ln := ln) (on := on) (ao := ao) (vr := vr) (sn := sn) (tp := tp) (pt := pt) (zs := zs) (bg := bg) (fa := fa) (n := n) (kd := kd) (fm := fm) (to := to) (sz := sz) (rl := rl) (en := en) (mk := mk) (mf := mf) (mu := mu) (mz := mz) (rr := rr) (ee := ee) (lst := lst) (ap := ap) (pr := pr) (pf := pf) (ro := ro) (te := te) (tr := trx) (gv := (va_up gv (te (i * 4 + p9) - 40) (some (lst (en q j))))) (i := i) (q := q) (p9 := p9 + 1) hm_116 hm_117 hm_118 hm_119 hm_120 hm_121 hm_122 hm_123 hm_124 hm_125 hw hmr (by omega) (by omega) (by omega) hpp (gv_up hgv hle) hlst (by omega)) (cwV 3 hts (gV (lwg_of t_1331 rfl) (lwg_of t_1333 rfl) (lwg_of ts_41 rfl) (lwg_of t_13 rfl) (lwg_of t_1334 rfl)) rfl rfl rfl (by decide +kernel) ⟨Nat.le_of_ble_eq_true rfl, Nat.le_of_ble_eq_true rfl⟩) (hI.preV hm_116 rfl) rfl rfl hl.1 rfl (lv_room (Nat.le_of_ble_eq_true rfl)) dX10_fits_208 ⟨Nat.le_of_ble_eq_true rfl, Nat.le_of_ble_eq_true rfl⟩) hI (fun M_129 H_130 locs_131 hp_128 hI => ?_)
                        obtain ⟨tr2_136, hm_132, hm_133, hF_134, hP_135⟩ := hp_128
                        have hm_137 : M_129 60 = some (cModel ad th ln on ao vr sn tp pt zs bg fa) := by rw [hF_134 60 (by omega) (by omega)]; exact hm_116
                        have hm_138 : M_129 68 = some (aI G 121 (nF mz)) := by rw [hF_134 68 (by omega) (by omega)]; exact hm_117
                        have hm_139 : M_129 69 = some (aI G 726 (nF rr)) := by rw [hF_134 69 (by omega) (by omega)]; exact hm_118
                        have hm_140 : M_129 70 = some (aI G 726 (nF ee)) := by rw [hF_134 70 (by omega) (by omega)]; exact hm_119
                        have hm_141 : M_129 71 = some (aI G 40 (nF lst)) := by rw [hF_134 71 (by omega) (by omega)]; exact hm_120
                        have hm_142 : M_129 77 = some (aI G 12 (nF ap)) := by rw [hF_134 77 (by omega) (by omega)]; exact hm_121
                        have hm_143 : M_129 78 = some (aI G 48 pr) := by rw [hF_134 78 (by omega) (by omega)]; exact hm_122
                        have hm_144 : M_129 79 = some (aI G 48 pf) := by rw [hF_134 79 (by omega) (by omega)]; exact hm_123
                        have hF_145 : ∀ j : Nat, j ≠ 82 → j ≠ 83 → M_129 j = M j := fun j q0 q1 => (hF_134 j q0 q1).trans (hF_126 j q0 q1)
                        refine lv_aload_n hx hb dX10_fits_211 rfl (lv_at hl 3 rfl) ?_
                        refine h_get (C := RX10) (T := TX10) (N := 38) hx hb hts i_RX10 hown hI hm_137 rfl 33 (by decide) f_86 rfl rfl dX10_fits_212 ?_
                        refine lv_iload hx hb dX10_fits_215 (lv_at hl 1 rfl) ?_
                        refine lv_iload hx hb dX10_fits_217 (lv_at hl 0 rfl) ?_
                        refine h_iast (i := te (i * 4 + p9) - 40) (x := oI (gv (te (i * 4 + p9) - 40))) hx hb hI hm_133 (by omega) (by decide) dX10_fits_219 (fun M_146 H_147 locs_148 eM_149 hI => ?_)
                        rw [upd_oF] at eM_149
                        have hm_150 : M_146 60 = some (cModel ad th ln on ao vr sn tp pt zs bg fa) := by rw [eM_149, va_up_ne _ _ (by decide)]; exact hm_137
                        have hm_151 : M_146 68 = some (aI G 121 (nF mz)) := by rw [eM_149, va_up_ne _ _ (by decide)]; exact hm_138
                        have hm_152 : M_146 69 = some (aI G 726 (nF rr)) := by rw [eM_149, va_up_ne _ _ (by decide)]; exact hm_139
                        have hm_153 : M_146 70 = some (aI G 726 (nF ee)) := by rw [eM_149, va_up_ne _ _ (by decide)]; exact hm_140
                        have hm_154 : M_146 71 = some (aI G 40 (nF lst)) := by rw [eM_149, va_up_ne _ _ (by decide)]; exact hm_141
                        have hm_155 : M_146 77 = some (aI G 12 (nF ap)) := by rw [eM_149, va_up_ne _ _ (by decide)]; exact hm_142
                        have hm_156 : M_146 78 = some (aI G 48 pr) := by rw [eM_149, va_up_ne _ _ (by decide)]; exact hm_143
                        have hm_157 : M_146 79 = some (aI G 48 pf) := by rw [eM_149, va_up_ne _ _ (by decide)]; exact hm_144
                        have hm_158 : M_146 82 = some (aZ G 384000 (bF tr2_136)) := by rw [eM_149, va_up_ne _ _ (by decide)]; exact hm_132
                        have hm_159 : M_146 83 = some (aI G 3 (oF (va_up (va_up gv (te (i * 4 + p9) - 40) (some (lst (en q j)))) (te (i * 4 + p9) - 40) (gv (te (i * 4 + p9) - 40))))) := by rw [eM_149]; exact va_up_self _ _ _
                        have hF_160 : ∀ j : Nat, j ≠ 82 → j ≠ 83 → M_146 j = M j := fun j q0 q1 => by rw [eM_149, va_up_ne _ _ q1]; exact hF_145 j q0 q1
                        rw [va_back] at hm_159
                        refine lv_iinc (v := nI (6 * q + j + 1)) (lv' := [(5, .int (nI (6 * q + j + 1))), (8, .int (oI (gv (te (i * 4 + p9) - 40)))), (7, .int (nI (te (i * 4 + p9) - 40))), (6, .int (nI (lst (en q j)))), (0, .ref (ad 60)), (1, .int (nI i)), (2, .int (nI q)), (3, .int (nI p9)), (4, .int (tmI (te (i * 4 + p9))))]) hx hb dX10_fits_220 hl (k := 8) rfl (nI_add (6 * q + j) 1) (by decide) rfl (fun ls hl => ?_)
                        refine lv_goto (tgt := 69) hx hb dX10_fits_223 (by decide) ?_
                        exact ih_46 (j + 1) tr2_136 M_146 H_147 locs_148 ls (by omega) (by omega) (fj_yes htr hP_135 (fun x => ⟨fun h9 => h9.2.2.elim (fun g9 => absurd g9.1 (by omega)) (fun g9 => g9.2.2), fun f9 => ⟨by assumption, by assumption, Or.inr ⟨by omega, Or.inr (o_ofD hc_59 (by assumption)), f9⟩⟩⟩)) hI hm_158 hm_159 (fun j q0 q1 => hF_160 j q0 q1) (lv_sub hl [4, 5, 6, 7, 8, 0] rfl)
                      · -- 187: nI ((gv (te (i * 4 + p9) - 40)).getD 0) ne
                        have c_111 : (gv (te (i * 4 + p9) - 40)).getD 0 ≠ lst (en q j) := by have h := mt (nI_eq (a := (gv (te (i * 4 + p9) - 40)).getD 0) (b := lst (en q j)) (by omega) (by omega)).mpr c_111; omega
                        refine lv_goto (tgt := 220) hx hb dX10_fits_190 (by decide) ?_
                        refine lv_iinc (v := nI (6 * q + j + 1)) (lv' := [(5, .int (nI (6 * q + j + 1))), (8, .int (oI (gv (te (i * 4 + p9) - 40)))), (7, .int (nI (te (i * 4 + p9) - 40))), (6, .int (nI (lst (en q j)))), (0, .ref (ad 60)), (1, .int (nI i)), (2, .int (nI q)), (3, .int (nI p9)), (4, .int (tmI (te (i * 4 + p9))))]) hx hb dX10_fits_220 hl (k := 8) rfl (nI_add (6 * q + j) 1) (by decide) rfl (fun ls hl => ?_)
                        refine lv_goto (tgt := 69) hx hb dX10_fits_223 (by decide) ?_
                        exact ih_46 (j + 1) trx Mx Hx locsx ls (by omega) (by omega) (fj_no htr (fun x h9 => h9.2.2.elim (fun g9 => absurd g9.1 (by omega)) (fun g9 => g9.2.1.elim (fun e9 => hc_59 e9) (fun e9 => absurd (o_getD e9) (by assumption))))) hI hm_42 hm_43 (fun j q0 q1 => hF_45 j q0 q1) (lv_sub hl [4, 5, 6, 7, 8, 0] rfl)
                · -- 136: tmI (te (i * 4 + p9)) ge
                  exact absurd (tm_neg _ h43 (by omega)) (by assumption)
              · -- 114: nI (en q j) ge
                have c_57 : 40 ≤ en q j := by have h := mt (nI_ltI (a := en q j) (b := 40) (by omega) (by omega)).mpr c_57; omega
                refine lv_goto (tgt := 220) hx hb dX10_fits_117 (by decide) ?_
                refine lv_iinc (v := nI (6 * q + j + 1)) (lv' := [(5, .int (nI (6 * q + j + 1))), (0, .ref (ad 60)), (1, .int (nI i)), (2, .int (nI q)), (3, .int (nI p9)), (4, .int (tmI (te (i * 4 + p9))))]) hx hb dX10_fits_220 hl (k := 5) rfl (nI_add (6 * q + j) 1) (by decide) rfl (fun ls hl => ?_)
                refine lv_goto (tgt := 69) hx hb dX10_fits_223 (by decide) ?_
                exact ih_46 (j + 1) trx Mx Hx locsx ls (by omega) (by omega) (fj_no htr (fun x h9 => absurd h9.2.1 (by omega))) hI hm_42 hm_43 (fun j q0 q1 => hF_45 j q0 q1) (lv_sub hl [1, 2, 3, 4, 5, 0] rfl)
      exact lp69_41 ((sz q - 0) + 1) 0 tr M s.heap [] ls (Nat.lt_succ_self _) (by omega) (fun x => ⟨Or.inl, fun h9 => h9.elim id (fun ⟨k9, h8, _⟩ => absurd h8 (Nat.not_lt_zero k9))⟩) hI h82 h83 (fun j _ _ => rfl) (lv_sub hl [2, 3, 4, 5, 1, 0] rfl)
  · -- 7: nI p9 eq
    have c_1 : p9 = ap i := (nI_eq (a := p9) (b := ap i) (by omega) (by omega)).mp (c_1)
    omega

/-- X10_fits -/
abbrev rm_c_X10_fits_3 : Room := { frames := 4, cells := 0, slots := 0, locals := 114 }
set_option maxHeartbeats 4000000 in
set_option maxRecDepth 100000 in
theorem c_X10_fits_3 (l : Launch) (G : GG) (z : Nat) (ad : Nat → Nat) (M : Mem) {th : Nat} {ln : Nat} {on : Nat} {ao : Nat} {vr : Nat} {sn : Nat} {tp : Nat} {pt : Nat} {zs : Nat} {bg : Nat} {fa : Int32} {n : Nat} {kd : Nat → Nat} {fm : Nat → Int32} {to : Nat → Int32} {sz : Nat → Nat} {rl : Nat → Nat → Nat} {en : Nat → Nat → Nat} {mk : Nat → Nat} {mf : Nat → Int32} {mu : Nat → Int32} {mz : Nat → Nat} {rr : Nat → Nat} {ee : Nat → Nat} {lst : Nat → Nat} {ap : Nat → Nat} {pr : Nat → Int32} {pf : Nat → Int32} {ro : Nat → Nat} {te : Nat → Nat} {tr : Nat → Bool} {gv : Nat → Option Nat} {i : Nat} {q : Nat} {p9 : Nat} (h60 : M 60 = some (cModel ad th ln on ao vr sn tp pt zs bg fa)) (h68 : M 68 = some (aI G 121 (nF mz))) (h69 : M 69 = some (aI G 726 (nF rr))) (h70 : M 70 = some (aI G 726 (nF ee))) (h71 : M 71 = some (aI G 40 (nF lst))) (h77 : M 77 = some (aI G 12 (nF ap))) (h78 : M 78 = some (aI G 48 pr)) (h79 : M 79 = some (aI G 48 pf)) (h82 : M 82 = some (aZ G 384000 (bF tr))) (h83 : M 83 = some (aI G 3 (oF gv))) (hw : LSw n kd sz rl en) (hmr : MRel n kd fm to sz rl en mk mf mu mz rr ee) (hq : q < n) (hi6 : i < 6) (hap : ap i ≤ 4) (hpp : ∀ p8, p8 < ap i → (pr (4 * i + p8) = nI (ro (i * 4 + p8)) ∧ ro (i * 4 + p8) < 6) ∧ te (i * 4 + p8) < 43 ∧ pf (4 * i + p8) = tmI (te (i * 4 + p8))) (hgv : ∀ v, v < 3 → ∀ t, gv v = some t → t < 40) (hlst : ∀ u, u < 40 → lst u < 40) (hpr : p9 + 3 = ap i) : Met l yX10_fits wsX10_fits rm_c_X10_fits_3 (Pr G z ad M [.ref (ad 60), .int (nI i), .int (nI q), .int (nI p9)]) (Nv G z ad (fun (M' : Mem) => ∃ tr2 : Nat → Bool, M' 82 = some (aZ G 384000 (bF tr2)) ∧ M' 83 = some (aI G 3 (oF gv)) ∧ (∀ j : Nat, j ≠ 82 → j ≠ 83 → M' j = M j) ∧ (∀ x, tr2 x = true ↔ tr x = true ∨ ftS sz rl en lst ro te i q 3 p9 gv x))) 0 0 (fr z) := by
  refine Met.ofW (cc := cX10_fits) (maxL := 9) (ret := none) (by decide) rfl ?_
  intro p e s m args below meth c s₁ B hml hv
  obtain ⟨rfl, hv⟩ := hv
  have hI := Iv.entry hv
  have hx := B.exec
  have hb := B.bytes
  have hr := B.returns
  have hts := atoms_spec (ws := wsX10_fits) B.pre
  have hown : s.vm.findClass RX10 = some m.cls := findClass_of_methodNamed B.named
  have hlocks := B.notSynchronized
  have i_RX10 : ∀ w ∈ u_ws RX10 TX10 38, w ∈ wsX10_fits := fun w h => List.mem_cons_of_mem _ (iu_X10 w h)
  have f_63 := hts _ (List.mem_cons_of_mem _ (lwg_of t_1032 rfl))
  have f_69 := hts _ (List.mem_cons_of_mem _ (lwg_of t_1034 rfl))
  have f_36 := hts _ (List.mem_cons_of_mem _ (lwg_of t_1021 rfl))
  have f_39 := hts _ (List.mem_cons_of_mem _ (lwg_of t_1022 rfl))
  have f_66 := hts _ (List.mem_cons_of_mem _ (lwg_of t_1033 rfl))
  have f_42 := hts _ (List.mem_cons_of_mem _ (lwg_of t_1023 rfl))
  have f_45 := hts _ (List.mem_cons_of_mem _ (lwg_of t_1025 rfl))
  have f_86 := hts _ (List.mem_cons_of_mem _ (lwg_of t_1046 rfl))
  have hl := lv_entry ([.ref (ad 60), .int (nI i), .int (nI q), .int (nI p9)]) (n := 9) (Nat.le_of_ble_eq_true rfl)
  rw [lg_entry_eq]
  generalize (lg_sl ([.ref (ad 60), .int (nI i), .int (nI q), .int (nI p9)]) ++ List.replicate (9 - (lg_sl ([.ref (ad 60), .int (nI i), .int (nI q), .int (nI p9)])).length) Slot.unset).toArray = ls at hl ⊢
  have hl : lv_has ls 9 [(0, .ref (ad 60)), (1, .int (nI i)), (2, .int (nI q)), (3, .int (nI p9))] := hl
  refine w_q (fun Q hQ => ?_)
  have hw1 := hw.1
  obtain ⟨hk6, hs6, hje⟩ := hw.2 q hq
  obtain ⟨hmk, hmf, hmt, hmz, hmj⟩ := hmr q hq
  obtain ⟨⟨hpr9, hro6⟩, h43, hpf9⟩ := hpp p9 (by omega)
  refine lv_iload_n hx hb dX10_fits_0 rfl (lv_at hl 3 rfl) ?_
  refine lv_aload_n hx hb dX10_fits_1 rfl (lv_at hl 0 rfl) ?_
  refine h_get (C := RX10) (T := TX10) (N := 38) hx hb hts i_RX10 hown hI h60 rfl 19 (by decide) f_63 rfl rfl dX10_fits_2 ?_
  refine lv_iload_n hx hb dX10_fits_5 rfl (lv_at hl 1 rfl) ?_
  refine h_iald (i := i) hx hb hI h77 (by omega) (by decide) dX10_fits_6 ?_
  refine lv_icmp_ne (tgt := 51) hx hb dX10_fits_7 (by decide) (fun c_1 => ?_) (fun c_1 => ?_)
  · -- 7: nI p9 ne
    have c_1 : p9 ≠ ap i := by have h := mt (nI_eq (a := p9) (b := ap i) (by omega) (by omega)).mpr c_1; omega
    refine lv_aload_n hx hb dX10_fits_51 rfl (lv_at hl 0 rfl) ?_
    refine h_get (C := RX10) (T := TX10) (N := 38) hx hb hts i_RX10 hown hI h60 rfl 21 (by decide) f_69 rfl rfl dX10_fits_52 ?_
    refine lv_iconst (v := nI 4) hx hb dX10_fits_55 (by decide) ?_
    refine lv_iload_n hx hb dX10_fits_56 rfl (lv_at hl 1 rfl) ?_
    refine lv_imul hx hb dX10_fits_57 ?_
    refine n_eq (pk_mul 4 i) ?_
    refine lv_iload_n hx hb dX10_fits_58 rfl (lv_at hl 3 rfl) ?_
    refine lv_iadd hx hb dX10_fits_59 ?_
    refine n_eq (nI_add (4 * i) p9) ?_
    by_cases hc_2 : te (i * 4 + p9) < 40
    · skip
      refine h_iald (i := (4 * i) + p9) hx hb hI h79 (by omega) (by decide) dX10_fits_60 ?_
      refine n_eq (show _ = nI (te (i * 4 + p9)) from hpf9.trans (tm_thing hc_2).symm) ?_
      refine lv_istore (lv' := [(4, .int (nI (te (i * 4 + p9)))), (0, .ref (ad 60)), (1, .int (nI i)), (2, .int (nI q)), (3, .int (nI p9))]) hx hb dX10_fits_61 hl (by decide) rfl (fun ls hl => ?_)
      refine lv_bipush (v := nI 6) hx hb dX10_fits_63 (by decide) ?_
      refine lv_iload_n hx hb dX10_fits_65 rfl (lv_at hl 3 rfl) ?_
      refine lv_imul hx hb dX10_fits_66 ?_
      refine n_eq (pk_mul 6 q) ?_
      refine lv_istore (lv' := [(5, .int (nI (6 * q))), (4, .int (nI (te (i * 4 + p9)))), (0, .ref (ad 60)), (1, .int (nI i)), (2, .int (nI q)), (3, .int (nI p9))]) hx hb dX10_fits_67 hl (by decide) rfl (fun ls hl => ?_)
      have lp69_3 : ∀ (fuel : Nat) (j : Nat) (trx : Nat → Bool) (Mx : Mem) (Hx : Heap) (locsx : List Loc) (ls : Array Slot), (sz q - j) < fuel → (j ≤ sz q) → (∀ x, trx x = true ↔ tr x = true ∨ ∃ j9, j9 < j ∧ ftJ sz rl en lst ro te i q 2 p9 gv x j9) → Iv G z ad Mx s Hx locsx → Mx 82 = some (aZ G 384000 (bF trx)) → Mx 83 = some (aI G 3 (oF gv)) → (∀ j : Nat, j ≠ 82 → j ≠ 83 → Mx j = M j) → lv_has ls 9 [(0, .ref (ad 60)), (1, .int (nI i)), (2, .int (nI q)), (3, .int (nI p9)), (4, .int (nI (te (i * 4 + p9)))), (5, .int (nI (6 * q + j)))] → W p l e (headSpec wsX10_fits rm_c_X10_fits_3).room s m ([.ref (ad 60), .int (nI i), .int (nI q), .int (nI p9)] : List Value).toArray below meth c Hx locsx 0 0 Q (F0 m 69 ls []) := by
        intro fuel
        induction fuel with
        | zero => intro j trx Mx Hx locsx ls hfu hj htr hI hm_4 hm_5 hF_7 hl; exact absurd hfu (Nat.not_lt_zero _)
        | succ fuel ih_8 =>
          intro j trx Mx Hx locsx ls hfu hj htr hI hm_4 hm_5 hF_7 hl
          have hm_9 : Mx 60 = some (cModel ad th ln on ao vr sn tp pt zs bg fa) := by rw [hF_7 60 (by omega) (by omega)]; exact h60
          have hm_10 : Mx 68 = some (aI G 121 (nF mz)) := by rw [hF_7 68 (by omega) (by omega)]; exact h68
          have hm_11 : Mx 69 = some (aI G 726 (nF rr)) := by rw [hF_7 69 (by omega) (by omega)]; exact h69
          have hm_12 : Mx 70 = some (aI G 726 (nF ee)) := by rw [hF_7 70 (by omega) (by omega)]; exact h70
          have hm_13 : Mx 71 = some (aI G 40 (nF lst)) := by rw [hF_7 71 (by omega) (by omega)]; exact h71
          have hm_14 : Mx 77 = some (aI G 12 (nF ap)) := by rw [hF_7 77 (by omega) (by omega)]; exact h77
          have hm_15 : Mx 78 = some (aI G 48 pr) := by rw [hF_7 78 (by omega) (by omega)]; exact h78
          have hm_16 : Mx 79 = some (aI G 48 pf) := by rw [hF_7 79 (by omega) (by omega)]; exact h79
          refine lv_iload hx hb dX10_fits_69 (lv_at hl 5 rfl) ?_
          refine lv_bipush (v := nI 6) hx hb dX10_fits_71 (by decide) ?_
          refine lv_iload_n hx hb dX10_fits_73 rfl (lv_at hl 2 rfl) ?_
          refine lv_imul hx hb dX10_fits_74 ?_
          refine n_eq (pk_mul 6 q) ?_
          refine lv_aload_n hx hb dX10_fits_75 rfl (lv_at hl 0 rfl) ?_
          refine h_get (C := RX10) (T := TX10) (N := 38) hx hb hts i_RX10 hown hI hm_9 rfl 8 (by decide) f_36 rfl rfl dX10_fits_76 ?_
          refine lv_iload_n hx hb dX10_fits_79 rfl (lv_at hl 2 rfl) ?_
          refine h_iald (i := q) hx hb hI hm_10 (by omega) (by decide) dX10_fits_80 ?_
          refine n_eq (show _ = nI (sz q) from congrArg nI hmz) ?_
          refine lv_iadd hx hb dX10_fits_81 ?_
          refine n_eq (nI_add (6 * q) (sz q)) ?_
          refine lv_icmp_ge (tgt := 226) hx hb dX10_fits_82 (by decide) (fun c_17 => ?_) (fun c_17 => ?_)
          · -- 82: nI (6 * q + j) ge
            have c_17 : (6 * q) + (sz q) ≤ 6 * q + j := (nI_leI (a := (6 * q) + (sz q)) (b := 6 * q + j) (by omega) (by omega)).mp (c_17)
            subst hQ
            exact e_Nv hx hb hr hlocks hI ⟨trx, hm_4, hm_5, (fun j q0 q1 => hF_7 j q0 q1), (fun x => by rw [htr x, show j = sz q by omega]; exact Iff.rfl)⟩ dX10_fits_226
          · -- 82: nI (6 * q + j) lt
            have c_17 : 6 * q + j < (6 * q) + (sz q) := by have h := mt (nI_leI (a := (6 * q) + (sz q)) (b := 6 * q + j) (by omega) (by omega)).mpr c_17; omega
            obtain ⟨hrj, hej⟩ := hmj j (by omega)
            obtain ⟨hr6, he4⟩ := hje j (by omega)
            refine lv_aload_n hx hb dX10_fits_85 rfl (lv_at hl 0 rfl) ?_
            refine h_get (C := RX10) (T := TX10) (N := 38) hx hb hts i_RX10 hown hI hm_9 rfl 9 (by decide) f_39 rfl rfl dX10_fits_86 ?_
            refine lv_iload hx hb dX10_fits_89 (lv_at hl 5 rfl) ?_
            refine h_iald (i := 6 * q + j) hx hb hI hm_11 (by omega) (by decide) dX10_fits_91 ?_
            refine n_eq (show _ = nI (rl q j) from congrArg nI hrj) ?_
            refine lv_aload_n hx hb dX10_fits_92 rfl (lv_at hl 0 rfl) ?_
            refine h_get (C := RX10) (T := TX10) (N := 38) hx hb hts i_RX10 hown hI hm_9 rfl 20 (by decide) f_66 rfl rfl dX10_fits_93 ?_
            refine lv_iconst (v := nI 4) hx hb dX10_fits_96 (by decide) ?_
            refine lv_iload_n hx hb dX10_fits_97 rfl (lv_at hl 1 rfl) ?_
            refine lv_imul hx hb dX10_fits_98 ?_
            refine n_eq (pk_mul 4 i) ?_
            refine lv_iload_n hx hb dX10_fits_99 rfl (lv_at hl 3 rfl) ?_
            refine lv_iadd hx hb dX10_fits_100 ?_
            refine n_eq (nI_add (4 * i) p9) ?_
            refine h_iald (i := (4 * i) + p9) hx hb hI hm_15 (by omega) (by decide) dX10_fits_101 ?_
            refine n_eq (show _ = nI (ro (i * 4 + p9)) from hpr9) ?_
            refine lv_icmp_ne (tgt := 220) hx hb dX10_fits_102 (by decide) (fun c_18 => ?_) (fun c_18 => ?_)
            · -- 102: nI (rl q j) ne
              have c_18 : rl q j ≠ ro (i * 4 + p9) := by have h := mt (nI_eq (a := rl q j) (b := ro (i * 4 + p9)) (by omega) (by omega)).mpr c_18; omega
              refine lv_iinc (v := nI (6 * q + j + 1)) (lv' := [(5, .int (nI (6 * q + j + 1))), (0, .ref (ad 60)), (1, .int (nI i)), (2, .int (nI q)), (3, .int (nI p9)), (4, .int (nI (te (i * 4 + p9))))]) hx hb dX10_fits_220 hl (k := 5) rfl (nI_add (6 * q + j) 1) (by decide) rfl (fun ls hl => ?_)
              refine lv_goto (tgt := 69) hx hb dX10_fits_223 (by decide) ?_
              exact ih_8 (j + 1) trx Mx Hx locsx ls (by omega) (by omega) (fj_no htr (fun x h9 => absurd h9.1 (by assumption))) hI hm_4 hm_5 (fun j q0 q1 => hF_7 j q0 q1) (lv_sub hl [1, 2, 3, 4, 5, 0] rfl)
            · -- 102: nI (rl q j) eq
              have c_18 : rl q j = ro (i * 4 + p9) := (nI_eq (a := rl q j) (b := ro (i * 4 + p9)) (by omega) (by omega)).mp (c_18)
              refine lv_aload_n hx hb dX10_fits_105 rfl (lv_at hl 0 rfl) ?_
              refine h_get (C := RX10) (T := TX10) (N := 38) hx hb hts i_RX10 hown hI hm_9 rfl 10 (by decide) f_42 rfl rfl dX10_fits_106 ?_
              refine lv_iload hx hb dX10_fits_109 (lv_at hl 5 rfl) ?_
              refine h_iald (i := 6 * q + j) hx hb hI hm_12 (by omega) (by decide) dX10_fits_111 ?_
              refine n_eq (show _ = nI (en q j) from congrArg nI hej) ?_
              refine lv_bipush (v := nI 40) hx hb dX10_fits_112 (by decide) ?_
              refine lv_icmp_lt (tgt := 120) hx hb dX10_fits_114 (by decide) (fun c_19 => ?_) (fun c_19 => ?_)
              · -- 114: nI (en q j) lt
                have c_19 : en q j < 40 := (nI_ltI (a := en q j) (b := 40) (by omega) (by omega)).mp (c_19)
                have hle := hlst (en q j) (by omega)
                refine lv_aload_n hx hb dX10_fits_120 rfl (lv_at hl 0 rfl) ?_
                refine h_get (C := RX10) (T := TX10) (N := 38) hx hb hts i_RX10 hown hI hm_9 rfl 12 (by decide) f_45 rfl rfl dX10_fits_121 ?_
                refine lv_aload_n hx hb dX10_fits_124 rfl (lv_at hl 0 rfl) ?_
                refine h_get (C := RX10) (T := TX10) (N := 38) hx hb hts i_RX10 hown hI hm_9 rfl 10 (by decide) f_42 rfl rfl dX10_fits_125 ?_
                refine lv_iload hx hb dX10_fits_128 (lv_at hl 5 rfl) ?_
                refine h_iald (i := 6 * q + j) hx hb hI hm_12 (by omega) (by decide) dX10_fits_130 ?_
                refine n_eq (show _ = nI (en q j) from congrArg nI hej) ?_
                refine h_iald (i := en q j) hx hb hI hm_13 (by omega) (by decide) dX10_fits_131 ?_
                refine lv_istore (lv' := [(6, .int (nI (lst (en q j)))), (0, .ref (ad 60)), (1, .int (nI i)), (2, .int (nI q)), (3, .int (nI p9)), (4, .int (nI (te (i * 4 + p9)))), (5, .int (nI (6 * q + j)))]) hx hb dX10_fits_132 hl (by decide) rfl (fun ls hl => ?_)
                refine lv_iload hx hb dX10_fits_134 (lv_at hl 5 rfl) ?_
                refine lv_if_lt (tgt := 163) hx hb dX10_fits_136 (by decide) (fun c_20 => ?_) (fun c_20 => ?_)
                · -- 136: nI (te (i * 4 + p9)) lt
                  have c_20 : te (i * 4 + p9) < 0 := (nI_ltI (a := te (i * 4 + p9)) (b := 0) (by omega) (by omega)).mp (c_20)
                  omega
                · -- 136: nI (te (i * 4 + p9)) ge
                  have c_20 : 0 ≤ te (i * 4 + p9) := by have h := mt (nI_ltI (a := te (i * 4 + p9)) (b := 0) (by omega) (by omega)).mpr c_20; omega
                  have hlt9 := hlst (te (i * 4 + p9)) (by omega)
                  refine lv_aload_n hx hb dX10_fits_139 rfl (lv_at hl 1 rfl) ?_
                  refine h_get (C := RX10) (T := TX10) (N := 38) hx hb hts i_RX10 hown hI hm_9 rfl 12 (by decide) f_45 rfl rfl dX10_fits_140 ?_
                  refine lv_iload hx hb dX10_fits_143 (lv_at hl 5 rfl) ?_
                  refine h_iald (i := te (i * 4 + p9)) hx hb hI hm_13 (by omega) (by decide) dX10_fits_145 ?_
                  refine lv_iload hx hb dX10_fits_146 (lv_at hl 0 rfl) ?_
                  refine lv_icmp_ne (tgt := 220) hx hb dX10_fits_148 (by decide) (fun c_21 => ?_) (fun c_21 => ?_)
                  · -- 148: nI (lst (te (i * 4 + p9))) ne
                    have c_21 : lst (te (i * 4 + p9)) ≠ lst (en q j) := by have h := mt (nI_eq (a := lst (te (i * 4 + p9))) (b := lst (en q j)) (by omega) (by omega)).mpr c_21; omega
                    refine lv_iinc (v := nI (6 * q + j + 1)) (lv' := [(5, .int (nI (6 * q + j + 1))), (6, .int (nI (lst (en q j)))), (0, .ref (ad 60)), (1, .int (nI i)), (2, .int (nI q)), (3, .int (nI p9)), (4, .int (nI (te (i * 4 + p9))))]) hx hb dX10_fits_220 hl (k := 6) rfl (nI_add (6 * q + j) 1) (by decide) rfl (fun ls hl => ?_)
                    refine lv_goto (tgt := 69) hx hb dX10_fits_223 (by decide) ?_
                    exact ih_8 (j + 1) trx Mx Hx locsx ls (by omega) (by omega) (fj_no htr (fun x h9 => h9.2.2.elim (fun g9 => absurd g9.2.1 (by assumption)) (fun g9 => absurd g9.1 (by omega)))) hI hm_4 hm_5 (fun j q0 q1 => hF_7 j q0 q1) (lv_sub hl [2, 3, 4, 5, 6, 0] rfl)
                  · -- 148: nI (lst (te (i * 4 + p9))) eq
                    have c_21 : lst (te (i * 4 + p9)) = lst (en q j) := (nI_eq (a := lst (te (i * 4 + p9))) (b := lst (en q j)) (by omega) (by omega)).mp (c_21)
                    refine lv_aload_n hx hb dX10_fits_151 rfl (lv_at hl 1 rfl) ?_
                    refine lv_iload_n hx hb dX10_fits_152 rfl (lv_at hl 2 rfl) ?_
                    refine lv_iload_n hx hb dX10_fits_153 rfl (lv_at hl 3 rfl) ?_
                    refine lv_iload_n hx hb dX10_fits_154 rfl (lv_at hl 4 rfl) ?_
                    refine lv_iconst (v := nI 1) hx hb dX10_fits_155 (by decide) ?_
                    refine lv_iadd hx hb dX10_fits_156 ?_
                    refine n_eq (nI_add p9 1) ?_
                    refine k_Nv (va_runV (As := [.int (nI i), .int (nI q), .int (nI (p9 + 1))]) (rest := []) ⟨hx, hb, hml, hown, hts⟩ (c_X10_fits_2 l G z ad Mx (th := th) (ln := ln) (on := on) (ao := ao) (vr := vr) (sn := sn) (tp := tp) (pt := pt) (zs := zs) (bg := bg) (fa := fa) (n := n) (kd := kd) (fm := fm) (to := to) (sz := sz) (rl := rl) (en := en) (mk := mk) (mf := mf) (mu := mu) (mz := mz) (rr := rr) (ee := ee) (lst := lst) (ap := ap) (pr := pr) (pf := pf) (ro := ro) (te := te) (tr := trx) (gv := gv) (i := i) (q := q) (p9 := p9 + 1) hm_9 hm_10 hm_11 hm_12 hm_13 hm_14 hm_15 hm_16 hm_4 hm_5 hw hmr (by omega) (by omega) (by omega) hpp hgv hlst (by omega)) (cwV 3 hts (gV (lwg_of t_1331 rfl) (lwg_of t_1333 rfl) (lwg_of ts_41 rfl) (lwg_of t_13 rfl) (lwg_of t_1334 rfl)) rfl rfl rfl (by decide +kernel) ⟨Nat.le_of_ble_eq_true rfl, Nat.le_of_ble_eq_true rfl⟩) (hI.preV hm_9 rfl) rfl rfl hl.1 rfl (lv_room (Nat.le_of_ble_eq_true rfl)) dX10_fits_157 ⟨Nat.le_of_ble_eq_true rfl, Nat.le_of_ble_eq_true rfl⟩) hI (fun M_24 H_25 locs_26 hp_23 hI => ?_)
                    obtain ⟨tr2_31, hm_27, hm_28, hF_29, hP_30⟩ := hp_23
                    have hm_32 : M_24 60 = some (cModel ad th ln on ao vr sn tp pt zs bg fa) := by rw [hF_29 60 (by omega) (by omega)]; exact hm_9
                    have hm_33 : M_24 68 = some (aI G 121 (nF mz)) := by rw [hF_29 68 (by omega) (by omega)]; exact hm_10
                    have hm_34 : M_24 69 = some (aI G 726 (nF rr)) := by rw [hF_29 69 (by omega) (by omega)]; exact hm_11
                    have hm_35 : M_24 70 = some (aI G 726 (nF ee)) := by rw [hF_29 70 (by omega) (by omega)]; exact hm_12
                    have hm_36 : M_24 71 = some (aI G 40 (nF lst)) := by rw [hF_29 71 (by omega) (by omega)]; exact hm_13
                    have hm_37 : M_24 77 = some (aI G 12 (nF ap)) := by rw [hF_29 77 (by omega) (by omega)]; exact hm_14
                    have hm_38 : M_24 78 = some (aI G 48 pr) := by rw [hF_29 78 (by omega) (by omega)]; exact hm_15
                    have hm_39 : M_24 79 = some (aI G 48 pf) := by rw [hF_29 79 (by omega) (by omega)]; exact hm_16
                    have hF_40 : ∀ j : Nat, j ≠ 82 → j ≠ 83 → M_24 j = M j := fun j q0 q1 => (hF_29 j q0 q1).trans (hF_7 j q0 q1)
                    refine lv_goto (tgt := 220) hx hb dX10_fits_160 (by decide) ?_
                    refine lv_iinc (v := nI (6 * q + j + 1)) (lv' := [(5, .int (nI (6 * q + j + 1))), (6, .int (nI (lst (en q j)))), (0, .ref (ad 60)), (1, .int (nI i)), (2, .int (nI q)), (3, .int (nI p9)), (4, .int (nI (te (i * 4 + p9))))]) hx hb dX10_fits_220 hl (k := 6) rfl (nI_add (6 * q + j) 1) (by decide) rfl (fun ls hl => ?_)
                    refine lv_goto (tgt := 69) hx hb dX10_fits_223 (by decide) ?_
                    exact ih_8 (j + 1) tr2_31 M_24 H_25 locs_26 ls (by omega) (by omega) (fj_yes htr hP_30 (fun x => ⟨fun h9 => h9.2.2.elim (fun g9 => g9.2.2) (fun g9 => absurd g9.1 (by omega)), fun f9 => ⟨by assumption, by assumption, Or.inl ⟨by omega, by assumption, f9⟩⟩⟩)) hI hm_27 hm_28 (fun j q0 q1 => hF_40 j q0 q1) (lv_sub hl [2, 3, 4, 5, 6, 0] rfl)
              · -- 114: nI (en q j) ge
                have c_19 : 40 ≤ en q j := by have h := mt (nI_ltI (a := en q j) (b := 40) (by omega) (by omega)).mpr c_19; omega
                refine lv_goto (tgt := 220) hx hb dX10_fits_117 (by decide) ?_
                refine lv_iinc (v := nI (6 * q + j + 1)) (lv' := [(5, .int (nI (6 * q + j + 1))), (0, .ref (ad 60)), (1, .int (nI i)), (2, .int (nI q)), (3, .int (nI p9)), (4, .int (nI (te (i * 4 + p9))))]) hx hb dX10_fits_220 hl (k := 5) rfl (nI_add (6 * q + j) 1) (by decide) rfl (fun ls hl => ?_)
                refine lv_goto (tgt := 69) hx hb dX10_fits_223 (by decide) ?_
                exact ih_8 (j + 1) trx Mx Hx locsx ls (by omega) (by omega) (fj_no htr (fun x h9 => absurd h9.2.1 (by omega))) hI hm_4 hm_5 (fun j q0 q1 => hF_7 j q0 q1) (lv_sub hl [1, 2, 3, 4, 5, 0] rfl)
      exact lp69_3 ((sz q - 0) + 1) 0 tr M s.heap [] ls (Nat.lt_succ_self _) (by omega) (fun x => ⟨Or.inl, fun h9 => h9.elim id (fun ⟨k9, h8, _⟩ => absurd h8 (Nat.not_lt_zero k9))⟩) hI h82 h83 (fun j _ _ => rfl) (lv_sub hl [2, 3, 4, 5, 1, 0] rfl)
    · skip
      refine h_iald (i := (4 * i) + p9) hx hb hI h79 (by omega) (by decide) dX10_fits_60 ?_
      refine n_eq (show _ = tmI (te (i * 4 + p9)) from hpf9) ?_
      refine lv_istore (lv' := [(4, .int (tmI (te (i * 4 + p9)))), (0, .ref (ad 60)), (1, .int (nI i)), (2, .int (nI q)), (3, .int (nI p9))]) hx hb dX10_fits_61 hl (by decide) rfl (fun ls hl => ?_)
      refine lv_bipush (v := nI 6) hx hb dX10_fits_63 (by decide) ?_
      refine lv_iload_n hx hb dX10_fits_65 rfl (lv_at hl 3 rfl) ?_
      refine lv_imul hx hb dX10_fits_66 ?_
      refine n_eq (pk_mul 6 q) ?_
      refine lv_istore (lv' := [(5, .int (nI (6 * q))), (4, .int (tmI (te (i * 4 + p9)))), (0, .ref (ad 60)), (1, .int (nI i)), (2, .int (nI q)), (3, .int (nI p9))]) hx hb dX10_fits_67 hl (by decide) rfl (fun ls hl => ?_)
      have lp69_41 : ∀ (fuel : Nat) (j : Nat) (trx : Nat → Bool) (Mx : Mem) (Hx : Heap) (locsx : List Loc) (ls : Array Slot), (sz q - j) < fuel → (j ≤ sz q) → (∀ x, trx x = true ↔ tr x = true ∨ ∃ j9, j9 < j ∧ ftJ sz rl en lst ro te i q 2 p9 gv x j9) → Iv G z ad Mx s Hx locsx → Mx 82 = some (aZ G 384000 (bF trx)) → Mx 83 = some (aI G 3 (oF gv)) → (∀ j : Nat, j ≠ 82 → j ≠ 83 → Mx j = M j) → lv_has ls 9 [(0, .ref (ad 60)), (1, .int (nI i)), (2, .int (nI q)), (3, .int (nI p9)), (4, .int (tmI (te (i * 4 + p9)))), (5, .int (nI (6 * q + j)))] → W p l e (headSpec wsX10_fits rm_c_X10_fits_3).room s m ([.ref (ad 60), .int (nI i), .int (nI q), .int (nI p9)] : List Value).toArray below meth c Hx locsx 0 0 Q (F0 m 69 ls []) := by
        intro fuel
        induction fuel with
        | zero => intro j trx Mx Hx locsx ls hfu hj htr hI hm_42 hm_43 hF_45 hl; exact absurd hfu (Nat.not_lt_zero _)
        | succ fuel ih_46 =>
          intro j trx Mx Hx locsx ls hfu hj htr hI hm_42 hm_43 hF_45 hl
          have hm_47 : Mx 60 = some (cModel ad th ln on ao vr sn tp pt zs bg fa) := by rw [hF_45 60 (by omega) (by omega)]; exact h60
          have hm_48 : Mx 68 = some (aI G 121 (nF mz)) := by rw [hF_45 68 (by omega) (by omega)]; exact h68
          have hm_49 : Mx 69 = some (aI G 726 (nF rr)) := by rw [hF_45 69 (by omega) (by omega)]; exact h69
          have hm_50 : Mx 70 = some (aI G 726 (nF ee)) := by rw [hF_45 70 (by omega) (by omega)]; exact h70
          have hm_51 : Mx 71 = some (aI G 40 (nF lst)) := by rw [hF_45 71 (by omega) (by omega)]; exact h71
          have hm_52 : Mx 77 = some (aI G 12 (nF ap)) := by rw [hF_45 77 (by omega) (by omega)]; exact h77
          have hm_53 : Mx 78 = some (aI G 48 pr) := by rw [hF_45 78 (by omega) (by omega)]; exact h78
          have hm_54 : Mx 79 = some (aI G 48 pf) := by rw [hF_45 79 (by omega) (by omega)]; exact h79
          refine lv_iload hx hb dX10_fits_69 (lv_at hl 5 rfl) ?_
          refine lv_bipush (v := nI 6) hx hb dX10_fits_71 (by decide) ?_
          refine lv_iload_n hx hb dX10_fits_73 rfl (lv_at hl 2 rfl) ?_
          refine lv_imul hx hb dX10_fits_74 ?_
          refine n_eq (pk_mul 6 q) ?_
          refine lv_aload_n hx hb dX10_fits_75 rfl (lv_at hl 0 rfl) ?_
          refine h_get (C := RX10) (T := TX10) (N := 38) hx hb hts i_RX10 hown hI hm_47 rfl 8 (by decide) f_36 rfl rfl dX10_fits_76 ?_
          refine lv_iload_n hx hb dX10_fits_79 rfl (lv_at hl 2 rfl) ?_
          refine h_iald (i := q) hx hb hI hm_48 (by omega) (by decide) dX10_fits_80 ?_
          refine n_eq (show _ = nI (sz q) from congrArg nI hmz) ?_
          refine lv_iadd hx hb dX10_fits_81 ?_
          refine n_eq (nI_add (6 * q) (sz q)) ?_
          refine lv_icmp_ge (tgt := 226) hx hb dX10_fits_82 (by decide) (fun c_55 => ?_) (fun c_55 => ?_)
          · -- 82: nI (6 * q + j) ge
            have c_55 : (6 * q) + (sz q) ≤ 6 * q + j := (nI_leI (a := (6 * q) + (sz q)) (b := 6 * q + j) (by omega) (by omega)).mp (c_55)
            subst hQ
            exact e_Nv hx hb hr hlocks hI ⟨trx, hm_42, hm_43, (fun j q0 q1 => hF_45 j q0 q1), (fun x => by rw [htr x, show j = sz q by omega]; exact Iff.rfl)⟩ dX10_fits_226
          · -- 82: nI (6 * q + j) lt
            have c_55 : 6 * q + j < (6 * q) + (sz q) := by have h := mt (nI_leI (a := (6 * q) + (sz q)) (b := 6 * q + j) (by omega) (by omega)).mpr c_55; omega
            obtain ⟨hrj, hej⟩ := hmj j (by omega)
            obtain ⟨hr6, he4⟩ := hje j (by omega)
            refine lv_aload_n hx hb dX10_fits_85 rfl (lv_at hl 0 rfl) ?_
            refine h_get (C := RX10) (T := TX10) (N := 38) hx hb hts i_RX10 hown hI hm_47 rfl 9 (by decide) f_39 rfl rfl dX10_fits_86 ?_
            refine lv_iload hx hb dX10_fits_89 (lv_at hl 5 rfl) ?_
            refine h_iald (i := 6 * q + j) hx hb hI hm_49 (by omega) (by decide) dX10_fits_91 ?_
            refine n_eq (show _ = nI (rl q j) from congrArg nI hrj) ?_
            refine lv_aload_n hx hb dX10_fits_92 rfl (lv_at hl 0 rfl) ?_
            refine h_get (C := RX10) (T := TX10) (N := 38) hx hb hts i_RX10 hown hI hm_47 rfl 20 (by decide) f_66 rfl rfl dX10_fits_93 ?_
            refine lv_iconst (v := nI 4) hx hb dX10_fits_96 (by decide) ?_
            refine lv_iload_n hx hb dX10_fits_97 rfl (lv_at hl 1 rfl) ?_
            refine lv_imul hx hb dX10_fits_98 ?_
            refine n_eq (pk_mul 4 i) ?_
            refine lv_iload_n hx hb dX10_fits_99 rfl (lv_at hl 3 rfl) ?_
            refine lv_iadd hx hb dX10_fits_100 ?_
            refine n_eq (nI_add (4 * i) p9) ?_
            refine h_iald (i := (4 * i) + p9) hx hb hI hm_53 (by omega) (by decide) dX10_fits_101 ?_
            refine n_eq (show _ = nI (ro (i * 4 + p9)) from hpr9) ?_
            refine lv_icmp_ne (tgt := 220) hx hb dX10_fits_102 (by decide) (fun c_56 => ?_) (fun c_56 => ?_)
            · -- 102: nI (rl q j) ne
              have c_56 : rl q j ≠ ro (i * 4 + p9) := by have h := mt (nI_eq (a := rl q j) (b := ro (i * 4 + p9)) (by omega) (by omega)).mpr c_56; omega
              refine lv_iinc (v := nI (6 * q + j + 1)) (lv' := [(5, .int (nI (6 * q + j + 1))), (0, .ref (ad 60)), (1, .int (nI i)), (2, .int (nI q)), (3, .int (nI p9)), (4, .int (tmI (te (i * 4 + p9))))]) hx hb dX10_fits_220 hl (k := 5) rfl (nI_add (6 * q + j) 1) (by decide) rfl (fun ls hl => ?_)
              refine lv_goto (tgt := 69) hx hb dX10_fits_223 (by decide) ?_
              exact ih_46 (j + 1) trx Mx Hx locsx ls (by omega) (by omega) (fj_no htr (fun x h9 => absurd h9.1 (by assumption))) hI hm_42 hm_43 (fun j q0 q1 => hF_45 j q0 q1) (lv_sub hl [1, 2, 3, 4, 5, 0] rfl)
            · -- 102: nI (rl q j) eq
              have c_56 : rl q j = ro (i * 4 + p9) := (nI_eq (a := rl q j) (b := ro (i * 4 + p9)) (by omega) (by omega)).mp (c_56)
              refine lv_aload_n hx hb dX10_fits_105 rfl (lv_at hl 0 rfl) ?_
              refine h_get (C := RX10) (T := TX10) (N := 38) hx hb hts i_RX10 hown hI hm_47 rfl 10 (by decide) f_42 rfl rfl dX10_fits_106 ?_
              refine lv_iload hx hb dX10_fits_109 (lv_at hl 5 rfl) ?_
              refine h_iald (i := 6 * q + j) hx hb hI hm_50 (by omega) (by decide) dX10_fits_111 ?_
              refine n_eq (show _ = nI (en q j) from congrArg nI hej) ?_
              refine lv_bipush (v := nI 40) hx hb dX10_fits_112 (by decide) ?_
              refine lv_icmp_lt (tgt := 120) hx hb dX10_fits_114 (by decide) (fun c_57 => ?_) (fun c_57 => ?_)
              · -- 114: nI (en q j) lt
                have c_57 : en q j < 40 := (nI_ltI (a := en q j) (b := 40) (by omega) (by omega)).mp (c_57)
                have hle := hlst (en q j) (by omega)
                refine lv_aload_n hx hb dX10_fits_120 rfl (lv_at hl 0 rfl) ?_
                refine h_get (C := RX10) (T := TX10) (N := 38) hx hb hts i_RX10 hown hI hm_47 rfl 12 (by decide) f_45 rfl rfl dX10_fits_121 ?_
                refine lv_aload_n hx hb dX10_fits_124 rfl (lv_at hl 0 rfl) ?_
                refine h_get (C := RX10) (T := TX10) (N := 38) hx hb hts i_RX10 hown hI hm_47 rfl 10 (by decide) f_42 rfl rfl dX10_fits_125 ?_
                refine lv_iload hx hb dX10_fits_128 (lv_at hl 5 rfl) ?_
                refine h_iald (i := 6 * q + j) hx hb hI hm_50 (by omega) (by decide) dX10_fits_130 ?_
                refine n_eq (show _ = nI (en q j) from congrArg nI hej) ?_
                refine h_iald (i := en q j) hx hb hI hm_51 (by omega) (by decide) dX10_fits_131 ?_
                refine lv_istore (lv' := [(6, .int (nI (lst (en q j)))), (0, .ref (ad 60)), (1, .int (nI i)), (2, .int (nI q)), (3, .int (nI p9)), (4, .int (tmI (te (i * 4 + p9)))), (5, .int (nI (6 * q + j)))]) hx hb dX10_fits_132 hl (by decide) rfl (fun ls hl => ?_)
                refine lv_iload hx hb dX10_fits_134 (lv_at hl 5 rfl) ?_
                refine lv_if_lt (tgt := 163) hx hb dX10_fits_136 (by decide) (fun c_58 => ?_) (fun c_58 => ?_)
                · -- 136: tmI (te (i * 4 + p9)) lt
                  refine lv_iconst (v := (-1)) hx hb dX10_fits_163 (by decide) ?_
                  refine lv_iload hx hb dX10_fits_164 (lv_at hl 5 rfl) ?_
                  refine lv_isub hx hb dX10_fits_166 ?_
                  refine n_eq (show _ = nI (te (i * 4 + p9) - 40) from tm_v _ h43 (by omega)) ?_
                  refine lv_istore (lv' := [(7, .int (nI (te (i * 4 + p9) - 40))), (6, .int (nI (lst (en q j)))), (0, .ref (ad 60)), (1, .int (nI i)), (2, .int (nI q)), (3, .int (nI p9)), (4, .int (tmI (te (i * 4 + p9)))), (5, .int (nI (6 * q + j)))]) hx hb dX10_fits_167 hl (by decide) rfl (fun ls hl => ?_)
                  refine lv_aload_n hx hb dX10_fits_169 rfl (lv_at hl 2 rfl) ?_
                  refine h_get (C := RX10) (T := TX10) (N := 38) hx hb hts i_RX10 hown hI hm_47 rfl 33 (by decide) f_86 rfl rfl dX10_fits_170 ?_
                  refine lv_iload hx hb dX10_fits_173 (lv_at hl 0 rfl) ?_
                  refine h_iald (i := te (i * 4 + p9) - 40) hx hb hI hm_43 (by omega) (by decide) dX10_fits_175 ?_
                  refine lv_istore (lv' := [(8, .int (oI (gv (te (i * 4 + p9) - 40)))), (7, .int (nI (te (i * 4 + p9) - 40))), (6, .int (nI (lst (en q j)))), (0, .ref (ad 60)), (1, .int (nI i)), (2, .int (nI q)), (3, .int (nI p9)), (4, .int (tmI (te (i * 4 + p9)))), (5, .int (nI (6 * q + j)))]) hx hb dX10_fits_176 hl (by decide) rfl (fun ls hl => ?_)
                  have hgd := gz_lt (hgv (te (i * 4 + p9) - 40) (by omega))
                  by_cases hc_59 : gv (te (i * 4 + p9) - 40) = none
                  · skip
                    refine lv_iload hx hb dX10_fits_178 (lv_at hl 0 rfl) ?_
                    refine n_eq (show _ = (-1) from congrArg oI hc_59) ?_
                    refine lv_if_lt (tgt := 193) hx hb dX10_fits_180 (by decide) (fun c_60 => ?_) (fun c_60 => ?_)
                    · -- 180: (-1) lt
                      refine lv_aload_n hx hb dX10_fits_193 rfl (lv_at hl 3 rfl) ?_
                      refine h_get (C := RX10) (T := TX10) (N := 38) hx hb hts i_RX10 hown hI hm_47 rfl 33 (by decide) f_86 rfl rfl dX10_fits_194 ?_
                      refine lv_iload hx hb dX10_fits_197 (lv_at hl 1 rfl) ?_
                      refine lv_iload hx hb dX10_fits_199 (lv_at hl 2 rfl) ?_
                      refine h_iast (i := te (i * 4 + p9) - 40) (x := nI (lst (en q j))) hx hb hI hm_43 (by omega) (by decide) dX10_fits_201 (fun M_61 H_62 locs_63 eM_64 hI => ?_)
                      rw [upd_oF_n] at eM_64
                      have hm_65 : M_61 60 = some (cModel ad th ln on ao vr sn tp pt zs bg fa) := by rw [eM_64, va_up_ne _ _ (by decide)]; exact hm_47
                      have hm_66 : M_61 68 = some (aI G 121 (nF mz)) := by rw [eM_64, va_up_ne _ _ (by decide)]; exact hm_48
                      have hm_67 : M_61 69 = some (aI G 726 (nF rr)) := by rw [eM_64, va_up_ne _ _ (by decide)]; exact hm_49
                      have hm_68 : M_61 70 = some (aI G 726 (nF ee)) := by rw [eM_64, va_up_ne _ _ (by decide)]; exact hm_50
                      have hm_69 : M_61 71 = some (aI G 40 (nF lst)) := by rw [eM_64, va_up_ne _ _ (by decide)]; exact hm_51
                      have hm_70 : M_61 77 = some (aI G 12 (nF ap)) := by rw [eM_64, va_up_ne _ _ (by decide)]; exact hm_52
                      have hm_71 : M_61 78 = some (aI G 48 pr) := by rw [eM_64, va_up_ne _ _ (by decide)]; exact hm_53
                      have hm_72 : M_61 79 = some (aI G 48 pf) := by rw [eM_64, va_up_ne _ _ (by decide)]; exact hm_54
                      have hm_73 : M_61 82 = some (aZ G 384000 (bF trx)) := by rw [eM_64, va_up_ne _ _ (by decide)]; exact hm_42
                      have hm_74 : M_61 83 = some (aI G 3 (oF (va_up gv (te (i * 4 + p9) - 40) (some (lst (en q j)))))) := by rw [eM_64]; exact va_up_self _ _ _
                      have hF_75 : ∀ j : Nat, j ≠ 82 → j ≠ 83 → M_61 j = M j := fun j q0 q1 => by rw [eM_64, va_up_ne _ _ q1]; exact hF_45 j q0 q1
                      refine lv_aload_n hx hb dX10_fits_202 rfl (lv_at hl 3 rfl) ?_
                      refine lv_iload_n hx hb dX10_fits_203 rfl (lv_at hl 4 rfl) ?_
                      refine lv_iload_n hx hb dX10_fits_204 rfl (lv_at hl 5 rfl) ?_
                      refine lv_iload_n hx hb dX10_fits_205 rfl (lv_at hl 6 rfl) ?_
                      refine lv_iconst (v := nI 1) hx hb dX10_fits_206 (by decide) ?_
                      refine lv_iadd hx hb dX10_fits_207 ?_
                      refine n_eq (nI_add p9 1) ?_
                      refine k_Nv (va_runV (As := [.int (nI i), .int (nI q), .int (nI (p9 + 1))]) (rest := []) ⟨hx, hb, hml, hown, hts⟩ (c_X10_fits_2 l G z ad M_61 (th := th) (ln := ln) (on := on) (ao := ao) (vr := vr) (sn := sn) (tp := tp) (pt := pt) (zs := zs) (bg := bg) (fa := fa) (n := n) (kd := kd) (fm := fm) (to := to) (sz := sz) (rl := rl) (en := en) (mk := mk) (mf := mf) (mu := mu) (mz := mz) (rr := rr) (ee := ee) (lst := lst) (ap := ap) (pr := pr) (pf := pf) (ro := ro) (te := te) (tr := trx) (gv := (va_up gv (te (i * 4 + p9) - 40) (some (lst (en q j))))) (i := i) (q := q) (p9 := p9 + 1) hm_65 hm_66 hm_67 hm_68 hm_69 hm_70 hm_71 hm_72 hm_73 hm_74 hw hmr (by omega) (by omega) (by omega) hpp (gv_up hgv hle) hlst (by omega)) (cwV 3 hts (gV (lwg_of t_1331 rfl) (lwg_of t_1333 rfl) (lwg_of ts_41 rfl) (lwg_of t_13 rfl) (lwg_of t_1334 rfl)) rfl rfl rfl (by decide +kernel) ⟨Nat.le_of_ble_eq_true rfl, Nat.le_of_ble_eq_true rfl⟩) (hI.preV hm_65 rfl) rfl rfl hl.1 rfl (lv_room (Nat.le_of_ble_eq_true rfl)) dX10_fits_208 ⟨Nat.le_of_ble_eq_true rfl, Nat.le_of_ble_eq_true rfl⟩) hI (fun M_78 H_79 locs_80 hp_77 hI => ?_)
                      obtain ⟨tr2_85, hm_81, hm_82, hF_83, hP_84⟩ := hp_77
                      have hm_86 : M_78 60 = some (cModel ad th ln on ao vr sn tp pt zs bg fa) := by rw [hF_83 60 (by omega) (by omega)]; exact hm_65
                      have hm_87 : M_78 68 = some (aI G 121 (nF mz)) := by rw [hF_83 68 (by omega) (by omega)]; exact hm_66
                      have hm_88 : M_78 69 = some (aI G 726 (nF rr)) := by rw [hF_83 69 (by omega) (by omega)]; exact hm_67
                      have hm_89 : M_78 70 = some (aI G 726 (nF ee)) := by rw [hF_83 70 (by omega) (by omega)]; exact hm_68
                      have hm_90 : M_78 71 = some (aI G 40 (nF lst)) := by rw [hF_83 71 (by omega) (by omega)]; exact hm_69
                      have hm_91 : M_78 77 = some (aI G 12 (nF ap)) := by rw [hF_83 77 (by omega) (by omega)]; exact hm_70
                      have hm_92 : M_78 78 = some (aI G 48 pr) := by rw [hF_83 78 (by omega) (by omega)]; exact hm_71
                      have hm_93 : M_78 79 = some (aI G 48 pf) := by rw [hF_83 79 (by omega) (by omega)]; exact hm_72
                      have hF_94 : ∀ j : Nat, j ≠ 82 → j ≠ 83 → M_78 j = M j := fun j q0 q1 => (hF_83 j q0 q1).trans (hF_75 j q0 q1)
                      refine lv_aload_n hx hb dX10_fits_211 rfl (lv_at hl 3 rfl) ?_
                      refine h_get (C := RX10) (T := TX10) (N := 38) hx hb hts i_RX10 hown hI hm_86 rfl 33 (by decide) f_86 rfl rfl dX10_fits_212 ?_
                      refine lv_iload hx hb dX10_fits_215 (lv_at hl 1 rfl) ?_
                      refine lv_iload hx hb dX10_fits_217 (lv_at hl 0 rfl) ?_
                      refine h_iast (i := te (i * 4 + p9) - 40) (x := oI (gv (te (i * 4 + p9) - 40))) hx hb hI hm_82 (by omega) (by decide) dX10_fits_219 (fun M_95 H_96 locs_97 eM_98 hI => ?_)
                      rw [upd_oF] at eM_98
                      have hm_99 : M_95 60 = some (cModel ad th ln on ao vr sn tp pt zs bg fa) := by rw [eM_98, va_up_ne _ _ (by decide)]; exact hm_86
                      have hm_100 : M_95 68 = some (aI G 121 (nF mz)) := by rw [eM_98, va_up_ne _ _ (by decide)]; exact hm_87
                      have hm_101 : M_95 69 = some (aI G 726 (nF rr)) := by rw [eM_98, va_up_ne _ _ (by decide)]; exact hm_88
                      have hm_102 : M_95 70 = some (aI G 726 (nF ee)) := by rw [eM_98, va_up_ne _ _ (by decide)]; exact hm_89
                      have hm_103 : M_95 71 = some (aI G 40 (nF lst)) := by rw [eM_98, va_up_ne _ _ (by decide)]; exact hm_90
                      have hm_104 : M_95 77 = some (aI G 12 (nF ap)) := by rw [eM_98, va_up_ne _ _ (by decide)]; exact hm_91
                      have hm_105 : M_95 78 = some (aI G 48 pr) := by rw [eM_98, va_up_ne _ _ (by decide)]; exact hm_92
                      have hm_106 : M_95 79 = some (aI G 48 pf) := by rw [eM_98, va_up_ne _ _ (by decide)]; exact hm_93
                      have hm_107 : M_95 82 = some (aZ G 384000 (bF tr2_85)) := by rw [eM_98, va_up_ne _ _ (by decide)]; exact hm_81
                      have hm_108 : M_95 83 = some (aI G 3 (oF (va_up (va_up gv (te (i * 4 + p9) - 40) (some (lst (en q j)))) (te (i * 4 + p9) - 40) (gv (te (i * 4 + p9) - 40))))) := by rw [eM_98]; exact va_up_self _ _ _
                      have hF_109 : ∀ j : Nat, j ≠ 82 → j ≠ 83 → M_95 j = M j := fun j q0 q1 => by rw [eM_98, va_up_ne _ _ q1]; exact hF_94 j q0 q1
                      rw [va_back] at hm_108
                      refine lv_iinc (v := nI (6 * q + j + 1)) (lv' := [(5, .int (nI (6 * q + j + 1))), (8, .int (oI (gv (te (i * 4 + p9) - 40)))), (7, .int (nI (te (i * 4 + p9) - 40))), (6, .int (nI (lst (en q j)))), (0, .ref (ad 60)), (1, .int (nI i)), (2, .int (nI q)), (3, .int (nI p9)), (4, .int (tmI (te (i * 4 + p9))))]) hx hb dX10_fits_220 hl (k := 8) rfl (nI_add (6 * q + j) 1) (by decide) rfl (fun ls hl => ?_)
                      refine lv_goto (tgt := 69) hx hb dX10_fits_223 (by decide) ?_
                      exact ih_46 (j + 1) tr2_85 M_95 H_96 locs_97 ls (by omega) (by omega) (fj_yes htr hP_84 (fun x => ⟨fun h9 => h9.2.2.elim (fun g9 => absurd g9.1 (by omega)) (fun g9 => g9.2.2), fun f9 => ⟨by assumption, by assumption, Or.inr ⟨by omega, Or.inl hc_59, f9⟩⟩⟩)) hI hm_107 hm_108 (fun j q0 q1 => hF_109 j q0 q1) (lv_sub hl [4, 5, 6, 7, 8, 0] rfl)
                    · -- 180: (-1) ge
                      exact absurd (by decide) c_60
                  · skip
                    refine lv_iload hx hb dX10_fits_178 (lv_at hl 0 rfl) ?_
                    refine n_eq (show _ = nI ((gv (te (i * 4 + p9) - 40)).getD 0) from o_some hc_59) ?_
                    refine lv_if_lt (tgt := 193) hx hb dX10_fits_180 (by decide) (fun c_110 => ?_) (fun c_110 => ?_)
                    · -- 180: nI ((gv (te (i * 4 + p9) - 40)).getD 0) lt
                      have c_110 : (gv (te (i * 4 + p9) - 40)).getD 0 < 0 := (nI_ltI (a := (gv (te (i * 4 + p9) - 40)).getD 0) (b := 0) (by omega) (by omega)).mp (c_110)
                      omega
                    · -- 180: nI ((gv (te (i * 4 + p9) - 40)).getD 0) ge
                      have c_110 : 0 ≤ (gv (te (i * 4 + p9) - 40)).getD 0 := by have h := mt (nI_ltI (a := (gv (te (i * 4 + p9) - 40)).getD 0) (b := 0) (by omega) (by omega)).mpr c_110; omega
                      refine lv_iload hx hb dX10_fits_183 (lv_at hl 0 rfl) ?_
                      refine n_eq (show _ = nI ((gv (te (i * 4 + p9) - 40)).getD 0) from o_some hc_59) ?_
                      refine lv_iload hx hb dX10_fits_185 (lv_at hl 2 rfl) ?_
                      refine lv_icmp_eq (tgt := 193) hx hb dX10_fits_187 (by decide) (fun c_111 => ?_) (fun c_111 => ?_)
                      · -- 187: nI ((gv (te (i * 4 + p9) - 40)).getD 0) eq
                        have c_111 : (gv (te (i * 4 + p9) - 40)).getD 0 = lst (en q j) := (nI_eq (a := (gv (te (i * 4 + p9) - 40)).getD 0) (b := lst (en q j)) (by omega) (by omega)).mp (c_111)
                        refine lv_aload_n hx hb dX10_fits_193 rfl (lv_at hl 3 rfl) ?_
                        refine h_get (C := RX10) (T := TX10) (N := 38) hx hb hts i_RX10 hown hI hm_47 rfl 33 (by decide) f_86 rfl rfl dX10_fits_194 ?_
                        refine lv_iload hx hb dX10_fits_197 (lv_at hl 1 rfl) ?_
                        refine lv_iload hx hb dX10_fits_199 (lv_at hl 2 rfl) ?_
                        refine h_iast (i := te (i * 4 + p9) - 40) (x := nI (lst (en q j))) hx hb hI hm_43 (by omega) (by decide) dX10_fits_201 (fun M_112 H_113 locs_114 eM_115 hI => ?_)
                        rw [upd_oF_n] at eM_115
                        have hm_116 : M_112 60 = some (cModel ad th ln on ao vr sn tp pt zs bg fa) := by rw [eM_115, va_up_ne _ _ (by decide)]; exact hm_47
                        have hm_117 : M_112 68 = some (aI G 121 (nF mz)) := by rw [eM_115, va_up_ne _ _ (by decide)]; exact hm_48
                        have hm_118 : M_112 69 = some (aI G 726 (nF rr)) := by rw [eM_115, va_up_ne _ _ (by decide)]; exact hm_49
                        have hm_119 : M_112 70 = some (aI G 726 (nF ee)) := by rw [eM_115, va_up_ne _ _ (by decide)]; exact hm_50
                        have hm_120 : M_112 71 = some (aI G 40 (nF lst)) := by rw [eM_115, va_up_ne _ _ (by decide)]; exact hm_51
                        have hm_121 : M_112 77 = some (aI G 12 (nF ap)) := by rw [eM_115, va_up_ne _ _ (by decide)]; exact hm_52
                        have hm_122 : M_112 78 = some (aI G 48 pr) := by rw [eM_115, va_up_ne _ _ (by decide)]; exact hm_53
                        have hm_123 : M_112 79 = some (aI G 48 pf) := by rw [eM_115, va_up_ne _ _ (by decide)]; exact hm_54
                        have hm_124 : M_112 82 = some (aZ G 384000 (bF trx)) := by rw [eM_115, va_up_ne _ _ (by decide)]; exact hm_42
                        have hm_125 : M_112 83 = some (aI G 3 (oF (va_up gv (te (i * 4 + p9) - 40) (some (lst (en q j)))))) := by rw [eM_115]; exact va_up_self _ _ _
                        have hF_126 : ∀ j : Nat, j ≠ 82 → j ≠ 83 → M_112 j = M j := fun j q0 q1 => by rw [eM_115, va_up_ne _ _ q1]; exact hF_45 j q0 q1
                        refine lv_aload_n hx hb dX10_fits_202 rfl (lv_at hl 3 rfl) ?_
                        refine lv_iload_n hx hb dX10_fits_203 rfl (lv_at hl 4 rfl) ?_
                        refine lv_iload_n hx hb dX10_fits_204 rfl (lv_at hl 5 rfl) ?_
                        refine lv_iload_n hx hb dX10_fits_205 rfl (lv_at hl 6 rfl) ?_
                        refine lv_iconst (v := nI 1) hx hb dX10_fits_206 (by decide) ?_
                        refine lv_iadd hx hb dX10_fits_207 ?_
                        refine n_eq (nI_add p9 1) ?_
                        refine k_Nv (va_runV (As := [.int (nI i), .int (nI q), .int (nI (p9 + 1))]) (rest := []) ⟨hx, hb, hml, hown, hts⟩ (c_X10_fits_2 l G z ad M_112 (th := th) (ln := ln) (on := on) (ao := ao) (vr := vr) (sn := sn) (tp := tp) (pt := pt) (zs := zs) (bg := bg) (fa := fa) (n := n) (kd := kd) (fm := fm) (to := to) (sz := sz) (rl := rl) (en := en) (mk := mk) (mf := mf) (mu := mu) (mz := mz) (rr := rr) (ee := ee) (lst := lst) (ap := ap) (pr := pr) (pf := pf) (ro := ro) (te := te) (tr := trx) (gv := (va_up gv (te (i * 4 + p9) - 40) (some (lst (en q j))))) (i := i) (q := q) (p9 := p9 + 1) hm_116 hm_117 hm_118 hm_119 hm_120 hm_121 hm_122 hm_123 hm_124 hm_125 hw hmr (by omega) (by omega) (by omega) hpp (gv_up hgv hle) hlst (by omega)) (cwV 3 hts (gV (lwg_of t_1331 rfl) (lwg_of t_1333 rfl) (lwg_of ts_41 rfl) (lwg_of t_13 rfl) (lwg_of t_1334 rfl)) rfl rfl rfl (by decide +kernel) ⟨Nat.le_of_ble_eq_true rfl, Nat.le_of_ble_eq_true rfl⟩) (hI.preV hm_116 rfl) rfl rfl hl.1 rfl (lv_room (Nat.le_of_ble_eq_true rfl)) dX10_fits_208 ⟨Nat.le_of_ble_eq_true rfl, Nat.le_of_ble_eq_true rfl⟩) hI (fun M_129 H_130 locs_131 hp_128 hI => ?_)
                        obtain ⟨tr2_136, hm_132, hm_133, hF_134, hP_135⟩ := hp_128
                        have hm_137 : M_129 60 = some (cModel ad th ln on ao vr sn tp pt zs bg fa) := by rw [hF_134 60 (by omega) (by omega)]; exact hm_116
                        have hm_138 : M_129 68 = some (aI G 121 (nF mz)) := by rw [hF_134 68 (by omega) (by omega)]; exact hm_117
                        have hm_139 : M_129 69 = some (aI G 726 (nF rr)) := by rw [hF_134 69 (by omega) (by omega)]; exact hm_118
                        have hm_140 : M_129 70 = some (aI G 726 (nF ee)) := by rw [hF_134 70 (by omega) (by omega)]; exact hm_119
                        have hm_141 : M_129 71 = some (aI G 40 (nF lst)) := by rw [hF_134 71 (by omega) (by omega)]; exact hm_120
                        have hm_142 : M_129 77 = some (aI G 12 (nF ap)) := by rw [hF_134 77 (by omega) (by omega)]; exact hm_121
                        have hm_143 : M_129 78 = some (aI G 48 pr) := by rw [hF_134 78 (by omega) (by omega)]; exact hm_122
                        have hm_144 : M_129 79 = some (aI G 48 pf) := by rw [hF_134 79 (by omega) (by omega)]; exact hm_123
                        have hF_145 : ∀ j : Nat, j ≠ 82 → j ≠ 83 → M_129 j = M j := fun j q0 q1 => (hF_134 j q0 q1).trans (hF_126 j q0 q1)
                        refine lv_aload_n hx hb dX10_fits_211 rfl (lv_at hl 3 rfl) ?_
                        refine h_get (C := RX10) (T := TX10) (N := 38) hx hb hts i_RX10 hown hI hm_137 rfl 33 (by decide) f_86 rfl rfl dX10_fits_212 ?_
                        refine lv_iload hx hb dX10_fits_215 (lv_at hl 1 rfl) ?_
                        refine lv_iload hx hb dX10_fits_217 (lv_at hl 0 rfl) ?_
                        refine h_iast (i := te (i * 4 + p9) - 40) (x := oI (gv (te (i * 4 + p9) - 40))) hx hb hI hm_133 (by omega) (by decide) dX10_fits_219 (fun M_146 H_147 locs_148 eM_149 hI => ?_)
                        rw [upd_oF] at eM_149
                        have hm_150 : M_146 60 = some (cModel ad th ln on ao vr sn tp pt zs bg fa) := by rw [eM_149, va_up_ne _ _ (by decide)]; exact hm_137
                        have hm_151 : M_146 68 = some (aI G 121 (nF mz)) := by rw [eM_149, va_up_ne _ _ (by decide)]; exact hm_138
                        have hm_152 : M_146 69 = some (aI G 726 (nF rr)) := by rw [eM_149, va_up_ne _ _ (by decide)]; exact hm_139
                        have hm_153 : M_146 70 = some (aI G 726 (nF ee)) := by rw [eM_149, va_up_ne _ _ (by decide)]; exact hm_140
                        have hm_154 : M_146 71 = some (aI G 40 (nF lst)) := by rw [eM_149, va_up_ne _ _ (by decide)]; exact hm_141
                        have hm_155 : M_146 77 = some (aI G 12 (nF ap)) := by rw [eM_149, va_up_ne _ _ (by decide)]; exact hm_142
                        have hm_156 : M_146 78 = some (aI G 48 pr) := by rw [eM_149, va_up_ne _ _ (by decide)]; exact hm_143
                        have hm_157 : M_146 79 = some (aI G 48 pf) := by rw [eM_149, va_up_ne _ _ (by decide)]; exact hm_144
                        have hm_158 : M_146 82 = some (aZ G 384000 (bF tr2_136)) := by rw [eM_149, va_up_ne _ _ (by decide)]; exact hm_132
                        have hm_159 : M_146 83 = some (aI G 3 (oF (va_up (va_up gv (te (i * 4 + p9) - 40) (some (lst (en q j)))) (te (i * 4 + p9) - 40) (gv (te (i * 4 + p9) - 40))))) := by rw [eM_149]; exact va_up_self _ _ _
                        have hF_160 : ∀ j : Nat, j ≠ 82 → j ≠ 83 → M_146 j = M j := fun j q0 q1 => by rw [eM_149, va_up_ne _ _ q1]; exact hF_145 j q0 q1
                        rw [va_back] at hm_159
                        refine lv_iinc (v := nI (6 * q + j + 1)) (lv' := [(5, .int (nI (6 * q + j + 1))), (8, .int (oI (gv (te (i * 4 + p9) - 40)))), (7, .int (nI (te (i * 4 + p9) - 40))), (6, .int (nI (lst (en q j)))), (0, .ref (ad 60)), (1, .int (nI i)), (2, .int (nI q)), (3, .int (nI p9)), (4, .int (tmI (te (i * 4 + p9))))]) hx hb dX10_fits_220 hl (k := 8) rfl (nI_add (6 * q + j) 1) (by decide) rfl (fun ls hl => ?_)
                        refine lv_goto (tgt := 69) hx hb dX10_fits_223 (by decide) ?_
                        exact ih_46 (j + 1) tr2_136 M_146 H_147 locs_148 ls (by omega) (by omega) (fj_yes htr hP_135 (fun x => ⟨fun h9 => h9.2.2.elim (fun g9 => absurd g9.1 (by omega)) (fun g9 => g9.2.2), fun f9 => ⟨by assumption, by assumption, Or.inr ⟨by omega, Or.inr (o_ofD hc_59 (by assumption)), f9⟩⟩⟩)) hI hm_158 hm_159 (fun j q0 q1 => hF_160 j q0 q1) (lv_sub hl [4, 5, 6, 7, 8, 0] rfl)
                      · -- 187: nI ((gv (te (i * 4 + p9) - 40)).getD 0) ne
                        have c_111 : (gv (te (i * 4 + p9) - 40)).getD 0 ≠ lst (en q j) := by have h := mt (nI_eq (a := (gv (te (i * 4 + p9) - 40)).getD 0) (b := lst (en q j)) (by omega) (by omega)).mpr c_111; omega
                        refine lv_goto (tgt := 220) hx hb dX10_fits_190 (by decide) ?_
                        refine lv_iinc (v := nI (6 * q + j + 1)) (lv' := [(5, .int (nI (6 * q + j + 1))), (8, .int (oI (gv (te (i * 4 + p9) - 40)))), (7, .int (nI (te (i * 4 + p9) - 40))), (6, .int (nI (lst (en q j)))), (0, .ref (ad 60)), (1, .int (nI i)), (2, .int (nI q)), (3, .int (nI p9)), (4, .int (tmI (te (i * 4 + p9))))]) hx hb dX10_fits_220 hl (k := 8) rfl (nI_add (6 * q + j) 1) (by decide) rfl (fun ls hl => ?_)
                        refine lv_goto (tgt := 69) hx hb dX10_fits_223 (by decide) ?_
                        exact ih_46 (j + 1) trx Mx Hx locsx ls (by omega) (by omega) (fj_no htr (fun x h9 => h9.2.2.elim (fun g9 => absurd g9.1 (by omega)) (fun g9 => g9.2.1.elim (fun e9 => hc_59 e9) (fun e9 => absurd (o_getD e9) (by assumption))))) hI hm_42 hm_43 (fun j q0 q1 => hF_45 j q0 q1) (lv_sub hl [4, 5, 6, 7, 8, 0] rfl)
                · -- 136: tmI (te (i * 4 + p9)) ge
                  exact absurd (tm_neg _ h43 (by omega)) (by assumption)
              · -- 114: nI (en q j) ge
                have c_57 : 40 ≤ en q j := by have h := mt (nI_ltI (a := en q j) (b := 40) (by omega) (by omega)).mpr c_57; omega
                refine lv_goto (tgt := 220) hx hb dX10_fits_117 (by decide) ?_
                refine lv_iinc (v := nI (6 * q + j + 1)) (lv' := [(5, .int (nI (6 * q + j + 1))), (0, .ref (ad 60)), (1, .int (nI i)), (2, .int (nI q)), (3, .int (nI p9)), (4, .int (tmI (te (i * 4 + p9))))]) hx hb dX10_fits_220 hl (k := 5) rfl (nI_add (6 * q + j) 1) (by decide) rfl (fun ls hl => ?_)
                refine lv_goto (tgt := 69) hx hb dX10_fits_223 (by decide) ?_
                exact ih_46 (j + 1) trx Mx Hx locsx ls (by omega) (by omega) (fj_no htr (fun x h9 => absurd h9.2.1 (by omega))) hI hm_42 hm_43 (fun j q0 q1 => hF_45 j q0 q1) (lv_sub hl [1, 2, 3, 4, 5, 0] rfl)
      exact lp69_41 ((sz q - 0) + 1) 0 tr M s.heap [] ls (Nat.lt_succ_self _) (by omega) (fun x => ⟨Or.inl, fun h9 => h9.elim id (fun ⟨k9, h8, _⟩ => absurd h8 (Nat.not_lt_zero k9))⟩) hI h82 h83 (fun j _ _ => rfl) (lv_sub hl [2, 3, 4, 5, 1, 0] rfl)
  · -- 7: nI p9 eq
    have c_1 : p9 = ap i := (nI_eq (a := p9) (b := ap i) (by omega) (by omega)).mp (c_1)
    omega

/-- X10_fits -/
abbrev rm_c_X10_fits_4 : Room := { frames := 5, cells := 0, slots := 0, locals := 142 }
set_option maxHeartbeats 4000000 in
set_option maxRecDepth 100000 in
theorem c_X10_fits_4 (l : Launch) (G : GG) (z : Nat) (ad : Nat → Nat) (M : Mem) {th : Nat} {ln : Nat} {on : Nat} {ao : Nat} {vr : Nat} {sn : Nat} {tp : Nat} {pt : Nat} {zs : Nat} {bg : Nat} {fa : Int32} {n : Nat} {kd : Nat → Nat} {fm : Nat → Int32} {to : Nat → Int32} {sz : Nat → Nat} {rl : Nat → Nat → Nat} {en : Nat → Nat → Nat} {mk : Nat → Nat} {mf : Nat → Int32} {mu : Nat → Int32} {mz : Nat → Nat} {rr : Nat → Nat} {ee : Nat → Nat} {lst : Nat → Nat} {ap : Nat → Nat} {pr : Nat → Int32} {pf : Nat → Int32} {ro : Nat → Nat} {te : Nat → Nat} {tr : Nat → Bool} {gv : Nat → Option Nat} {i : Nat} {q : Nat} {p9 : Nat} (h60 : M 60 = some (cModel ad th ln on ao vr sn tp pt zs bg fa)) (h68 : M 68 = some (aI G 121 (nF mz))) (h69 : M 69 = some (aI G 726 (nF rr))) (h70 : M 70 = some (aI G 726 (nF ee))) (h71 : M 71 = some (aI G 40 (nF lst))) (h77 : M 77 = some (aI G 12 (nF ap))) (h78 : M 78 = some (aI G 48 pr)) (h79 : M 79 = some (aI G 48 pf)) (h82 : M 82 = some (aZ G 384000 (bF tr))) (h83 : M 83 = some (aI G 3 (oF gv))) (hw : LSw n kd sz rl en) (hmr : MRel n kd fm to sz rl en mk mf mu mz rr ee) (hq : q < n) (hi6 : i < 6) (hap : ap i ≤ 4) (hpp : ∀ p8, p8 < ap i → (pr (4 * i + p8) = nI (ro (i * 4 + p8)) ∧ ro (i * 4 + p8) < 6) ∧ te (i * 4 + p8) < 43 ∧ pf (4 * i + p8) = tmI (te (i * 4 + p8))) (hgv : ∀ v, v < 3 → ∀ t, gv v = some t → t < 40) (hlst : ∀ u, u < 40 → lst u < 40) (hpr : p9 + 4 = ap i) : Met l yX10_fits wsX10_fits rm_c_X10_fits_4 (Pr G z ad M [.ref (ad 60), .int (nI i), .int (nI q), .int (nI p9)]) (Nv G z ad (fun (M' : Mem) => ∃ tr2 : Nat → Bool, M' 82 = some (aZ G 384000 (bF tr2)) ∧ M' 83 = some (aI G 3 (oF gv)) ∧ (∀ j : Nat, j ≠ 82 → j ≠ 83 → M' j = M j) ∧ (∀ x, tr2 x = true ↔ tr x = true ∨ ftS sz rl en lst ro te i q 4 p9 gv x))) 0 0 (fr z) := by
  refine Met.ofW (cc := cX10_fits) (maxL := 9) (ret := none) (by decide) rfl ?_
  intro p e s m args below meth c s₁ B hml hv
  obtain ⟨rfl, hv⟩ := hv
  have hI := Iv.entry hv
  have hx := B.exec
  have hb := B.bytes
  have hr := B.returns
  have hts := atoms_spec (ws := wsX10_fits) B.pre
  have hown : s.vm.findClass RX10 = some m.cls := findClass_of_methodNamed B.named
  have hlocks := B.notSynchronized
  have i_RX10 : ∀ w ∈ u_ws RX10 TX10 38, w ∈ wsX10_fits := fun w h => List.mem_cons_of_mem _ (iu_X10 w h)
  have f_63 := hts _ (List.mem_cons_of_mem _ (lwg_of t_1032 rfl))
  have f_69 := hts _ (List.mem_cons_of_mem _ (lwg_of t_1034 rfl))
  have f_36 := hts _ (List.mem_cons_of_mem _ (lwg_of t_1021 rfl))
  have f_39 := hts _ (List.mem_cons_of_mem _ (lwg_of t_1022 rfl))
  have f_66 := hts _ (List.mem_cons_of_mem _ (lwg_of t_1033 rfl))
  have f_42 := hts _ (List.mem_cons_of_mem _ (lwg_of t_1023 rfl))
  have f_45 := hts _ (List.mem_cons_of_mem _ (lwg_of t_1025 rfl))
  have f_86 := hts _ (List.mem_cons_of_mem _ (lwg_of t_1046 rfl))
  have hl := lv_entry ([.ref (ad 60), .int (nI i), .int (nI q), .int (nI p9)]) (n := 9) (Nat.le_of_ble_eq_true rfl)
  rw [lg_entry_eq]
  generalize (lg_sl ([.ref (ad 60), .int (nI i), .int (nI q), .int (nI p9)]) ++ List.replicate (9 - (lg_sl ([.ref (ad 60), .int (nI i), .int (nI q), .int (nI p9)])).length) Slot.unset).toArray = ls at hl ⊢
  have hl : lv_has ls 9 [(0, .ref (ad 60)), (1, .int (nI i)), (2, .int (nI q)), (3, .int (nI p9))] := hl
  refine w_q (fun Q hQ => ?_)
  have hw1 := hw.1
  obtain ⟨hk6, hs6, hje⟩ := hw.2 q hq
  obtain ⟨hmk, hmf, hmt, hmz, hmj⟩ := hmr q hq
  obtain ⟨⟨hpr9, hro6⟩, h43, hpf9⟩ := hpp p9 (by omega)
  refine lv_iload_n hx hb dX10_fits_0 rfl (lv_at hl 3 rfl) ?_
  refine lv_aload_n hx hb dX10_fits_1 rfl (lv_at hl 0 rfl) ?_
  refine h_get (C := RX10) (T := TX10) (N := 38) hx hb hts i_RX10 hown hI h60 rfl 19 (by decide) f_63 rfl rfl dX10_fits_2 ?_
  refine lv_iload_n hx hb dX10_fits_5 rfl (lv_at hl 1 rfl) ?_
  refine h_iald (i := i) hx hb hI h77 (by omega) (by decide) dX10_fits_6 ?_
  refine lv_icmp_ne (tgt := 51) hx hb dX10_fits_7 (by decide) (fun c_1 => ?_) (fun c_1 => ?_)
  · -- 7: nI p9 ne
    have c_1 : p9 ≠ ap i := by have h := mt (nI_eq (a := p9) (b := ap i) (by omega) (by omega)).mpr c_1; omega
    refine lv_aload_n hx hb dX10_fits_51 rfl (lv_at hl 0 rfl) ?_
    refine h_get (C := RX10) (T := TX10) (N := 38) hx hb hts i_RX10 hown hI h60 rfl 21 (by decide) f_69 rfl rfl dX10_fits_52 ?_
    refine lv_iconst (v := nI 4) hx hb dX10_fits_55 (by decide) ?_
    refine lv_iload_n hx hb dX10_fits_56 rfl (lv_at hl 1 rfl) ?_
    refine lv_imul hx hb dX10_fits_57 ?_
    refine n_eq (pk_mul 4 i) ?_
    refine lv_iload_n hx hb dX10_fits_58 rfl (lv_at hl 3 rfl) ?_
    refine lv_iadd hx hb dX10_fits_59 ?_
    refine n_eq (nI_add (4 * i) p9) ?_
    by_cases hc_2 : te (i * 4 + p9) < 40
    · skip
      refine h_iald (i := (4 * i) + p9) hx hb hI h79 (by omega) (by decide) dX10_fits_60 ?_
      refine n_eq (show _ = nI (te (i * 4 + p9)) from hpf9.trans (tm_thing hc_2).symm) ?_
      refine lv_istore (lv' := [(4, .int (nI (te (i * 4 + p9)))), (0, .ref (ad 60)), (1, .int (nI i)), (2, .int (nI q)), (3, .int (nI p9))]) hx hb dX10_fits_61 hl (by decide) rfl (fun ls hl => ?_)
      refine lv_bipush (v := nI 6) hx hb dX10_fits_63 (by decide) ?_
      refine lv_iload_n hx hb dX10_fits_65 rfl (lv_at hl 3 rfl) ?_
      refine lv_imul hx hb dX10_fits_66 ?_
      refine n_eq (pk_mul 6 q) ?_
      refine lv_istore (lv' := [(5, .int (nI (6 * q))), (4, .int (nI (te (i * 4 + p9)))), (0, .ref (ad 60)), (1, .int (nI i)), (2, .int (nI q)), (3, .int (nI p9))]) hx hb dX10_fits_67 hl (by decide) rfl (fun ls hl => ?_)
      have lp69_3 : ∀ (fuel : Nat) (j : Nat) (trx : Nat → Bool) (Mx : Mem) (Hx : Heap) (locsx : List Loc) (ls : Array Slot), (sz q - j) < fuel → (j ≤ sz q) → (∀ x, trx x = true ↔ tr x = true ∨ ∃ j9, j9 < j ∧ ftJ sz rl en lst ro te i q 3 p9 gv x j9) → Iv G z ad Mx s Hx locsx → Mx 82 = some (aZ G 384000 (bF trx)) → Mx 83 = some (aI G 3 (oF gv)) → (∀ j : Nat, j ≠ 82 → j ≠ 83 → Mx j = M j) → lv_has ls 9 [(0, .ref (ad 60)), (1, .int (nI i)), (2, .int (nI q)), (3, .int (nI p9)), (4, .int (nI (te (i * 4 + p9)))), (5, .int (nI (6 * q + j)))] → W p l e (headSpec wsX10_fits rm_c_X10_fits_4).room s m ([.ref (ad 60), .int (nI i), .int (nI q), .int (nI p9)] : List Value).toArray below meth c Hx locsx 0 0 Q (F0 m 69 ls []) := by
        intro fuel
        induction fuel with
        | zero => intro j trx Mx Hx locsx ls hfu hj htr hI hm_4 hm_5 hF_7 hl; exact absurd hfu (Nat.not_lt_zero _)
        | succ fuel ih_8 =>
          intro j trx Mx Hx locsx ls hfu hj htr hI hm_4 hm_5 hF_7 hl
          have hm_9 : Mx 60 = some (cModel ad th ln on ao vr sn tp pt zs bg fa) := by rw [hF_7 60 (by omega) (by omega)]; exact h60
          have hm_10 : Mx 68 = some (aI G 121 (nF mz)) := by rw [hF_7 68 (by omega) (by omega)]; exact h68
          have hm_11 : Mx 69 = some (aI G 726 (nF rr)) := by rw [hF_7 69 (by omega) (by omega)]; exact h69
          have hm_12 : Mx 70 = some (aI G 726 (nF ee)) := by rw [hF_7 70 (by omega) (by omega)]; exact h70
          have hm_13 : Mx 71 = some (aI G 40 (nF lst)) := by rw [hF_7 71 (by omega) (by omega)]; exact h71
          have hm_14 : Mx 77 = some (aI G 12 (nF ap)) := by rw [hF_7 77 (by omega) (by omega)]; exact h77
          have hm_15 : Mx 78 = some (aI G 48 pr) := by rw [hF_7 78 (by omega) (by omega)]; exact h78
          have hm_16 : Mx 79 = some (aI G 48 pf) := by rw [hF_7 79 (by omega) (by omega)]; exact h79
          refine lv_iload hx hb dX10_fits_69 (lv_at hl 5 rfl) ?_
          refine lv_bipush (v := nI 6) hx hb dX10_fits_71 (by decide) ?_
          refine lv_iload_n hx hb dX10_fits_73 rfl (lv_at hl 2 rfl) ?_
          refine lv_imul hx hb dX10_fits_74 ?_
          refine n_eq (pk_mul 6 q) ?_
          refine lv_aload_n hx hb dX10_fits_75 rfl (lv_at hl 0 rfl) ?_
          refine h_get (C := RX10) (T := TX10) (N := 38) hx hb hts i_RX10 hown hI hm_9 rfl 8 (by decide) f_36 rfl rfl dX10_fits_76 ?_
          refine lv_iload_n hx hb dX10_fits_79 rfl (lv_at hl 2 rfl) ?_
          refine h_iald (i := q) hx hb hI hm_10 (by omega) (by decide) dX10_fits_80 ?_
          refine n_eq (show _ = nI (sz q) from congrArg nI hmz) ?_
          refine lv_iadd hx hb dX10_fits_81 ?_
          refine n_eq (nI_add (6 * q) (sz q)) ?_
          refine lv_icmp_ge (tgt := 226) hx hb dX10_fits_82 (by decide) (fun c_17 => ?_) (fun c_17 => ?_)
          · -- 82: nI (6 * q + j) ge
            have c_17 : (6 * q) + (sz q) ≤ 6 * q + j := (nI_leI (a := (6 * q) + (sz q)) (b := 6 * q + j) (by omega) (by omega)).mp (c_17)
            subst hQ
            exact e_Nv hx hb hr hlocks hI ⟨trx, hm_4, hm_5, (fun j q0 q1 => hF_7 j q0 q1), (fun x => by rw [htr x, show j = sz q by omega]; exact Iff.rfl)⟩ dX10_fits_226
          · -- 82: nI (6 * q + j) lt
            have c_17 : 6 * q + j < (6 * q) + (sz q) := by have h := mt (nI_leI (a := (6 * q) + (sz q)) (b := 6 * q + j) (by omega) (by omega)).mpr c_17; omega
            obtain ⟨hrj, hej⟩ := hmj j (by omega)
            obtain ⟨hr6, he4⟩ := hje j (by omega)
            refine lv_aload_n hx hb dX10_fits_85 rfl (lv_at hl 0 rfl) ?_
            refine h_get (C := RX10) (T := TX10) (N := 38) hx hb hts i_RX10 hown hI hm_9 rfl 9 (by decide) f_39 rfl rfl dX10_fits_86 ?_
            refine lv_iload hx hb dX10_fits_89 (lv_at hl 5 rfl) ?_
            refine h_iald (i := 6 * q + j) hx hb hI hm_11 (by omega) (by decide) dX10_fits_91 ?_
            refine n_eq (show _ = nI (rl q j) from congrArg nI hrj) ?_
            refine lv_aload_n hx hb dX10_fits_92 rfl (lv_at hl 0 rfl) ?_
            refine h_get (C := RX10) (T := TX10) (N := 38) hx hb hts i_RX10 hown hI hm_9 rfl 20 (by decide) f_66 rfl rfl dX10_fits_93 ?_
            refine lv_iconst (v := nI 4) hx hb dX10_fits_96 (by decide) ?_
            refine lv_iload_n hx hb dX10_fits_97 rfl (lv_at hl 1 rfl) ?_
            refine lv_imul hx hb dX10_fits_98 ?_
            refine n_eq (pk_mul 4 i) ?_
            refine lv_iload_n hx hb dX10_fits_99 rfl (lv_at hl 3 rfl) ?_
            refine lv_iadd hx hb dX10_fits_100 ?_
            refine n_eq (nI_add (4 * i) p9) ?_
            refine h_iald (i := (4 * i) + p9) hx hb hI hm_15 (by omega) (by decide) dX10_fits_101 ?_
            refine n_eq (show _ = nI (ro (i * 4 + p9)) from hpr9) ?_
            refine lv_icmp_ne (tgt := 220) hx hb dX10_fits_102 (by decide) (fun c_18 => ?_) (fun c_18 => ?_)
            · -- 102: nI (rl q j) ne
              have c_18 : rl q j ≠ ro (i * 4 + p9) := by have h := mt (nI_eq (a := rl q j) (b := ro (i * 4 + p9)) (by omega) (by omega)).mpr c_18; omega
              refine lv_iinc (v := nI (6 * q + j + 1)) (lv' := [(5, .int (nI (6 * q + j + 1))), (0, .ref (ad 60)), (1, .int (nI i)), (2, .int (nI q)), (3, .int (nI p9)), (4, .int (nI (te (i * 4 + p9))))]) hx hb dX10_fits_220 hl (k := 5) rfl (nI_add (6 * q + j) 1) (by decide) rfl (fun ls hl => ?_)
              refine lv_goto (tgt := 69) hx hb dX10_fits_223 (by decide) ?_
              exact ih_8 (j + 1) trx Mx Hx locsx ls (by omega) (by omega) (fj_no htr (fun x h9 => absurd h9.1 (by assumption))) hI hm_4 hm_5 (fun j q0 q1 => hF_7 j q0 q1) (lv_sub hl [1, 2, 3, 4, 5, 0] rfl)
            · -- 102: nI (rl q j) eq
              have c_18 : rl q j = ro (i * 4 + p9) := (nI_eq (a := rl q j) (b := ro (i * 4 + p9)) (by omega) (by omega)).mp (c_18)
              refine lv_aload_n hx hb dX10_fits_105 rfl (lv_at hl 0 rfl) ?_
              refine h_get (C := RX10) (T := TX10) (N := 38) hx hb hts i_RX10 hown hI hm_9 rfl 10 (by decide) f_42 rfl rfl dX10_fits_106 ?_
              refine lv_iload hx hb dX10_fits_109 (lv_at hl 5 rfl) ?_
              refine h_iald (i := 6 * q + j) hx hb hI hm_12 (by omega) (by decide) dX10_fits_111 ?_
              refine n_eq (show _ = nI (en q j) from congrArg nI hej) ?_
              refine lv_bipush (v := nI 40) hx hb dX10_fits_112 (by decide) ?_
              refine lv_icmp_lt (tgt := 120) hx hb dX10_fits_114 (by decide) (fun c_19 => ?_) (fun c_19 => ?_)
              · -- 114: nI (en q j) lt
                have c_19 : en q j < 40 := (nI_ltI (a := en q j) (b := 40) (by omega) (by omega)).mp (c_19)
                have hle := hlst (en q j) (by omega)
                refine lv_aload_n hx hb dX10_fits_120 rfl (lv_at hl 0 rfl) ?_
                refine h_get (C := RX10) (T := TX10) (N := 38) hx hb hts i_RX10 hown hI hm_9 rfl 12 (by decide) f_45 rfl rfl dX10_fits_121 ?_
                refine lv_aload_n hx hb dX10_fits_124 rfl (lv_at hl 0 rfl) ?_
                refine h_get (C := RX10) (T := TX10) (N := 38) hx hb hts i_RX10 hown hI hm_9 rfl 10 (by decide) f_42 rfl rfl dX10_fits_125 ?_
                refine lv_iload hx hb dX10_fits_128 (lv_at hl 5 rfl) ?_
                refine h_iald (i := 6 * q + j) hx hb hI hm_12 (by omega) (by decide) dX10_fits_130 ?_
                refine n_eq (show _ = nI (en q j) from congrArg nI hej) ?_
                refine h_iald (i := en q j) hx hb hI hm_13 (by omega) (by decide) dX10_fits_131 ?_
                refine lv_istore (lv' := [(6, .int (nI (lst (en q j)))), (0, .ref (ad 60)), (1, .int (nI i)), (2, .int (nI q)), (3, .int (nI p9)), (4, .int (nI (te (i * 4 + p9)))), (5, .int (nI (6 * q + j)))]) hx hb dX10_fits_132 hl (by decide) rfl (fun ls hl => ?_)
                refine lv_iload hx hb dX10_fits_134 (lv_at hl 5 rfl) ?_
                refine lv_if_lt (tgt := 163) hx hb dX10_fits_136 (by decide) (fun c_20 => ?_) (fun c_20 => ?_)
                · -- 136: nI (te (i * 4 + p9)) lt
                  have c_20 : te (i * 4 + p9) < 0 := (nI_ltI (a := te (i * 4 + p9)) (b := 0) (by omega) (by omega)).mp (c_20)
                  omega
                · -- 136: nI (te (i * 4 + p9)) ge
                  have c_20 : 0 ≤ te (i * 4 + p9) := by have h := mt (nI_ltI (a := te (i * 4 + p9)) (b := 0) (by omega) (by omega)).mpr c_20; omega
                  have hlt9 := hlst (te (i * 4 + p9)) (by omega)
                  refine lv_aload_n hx hb dX10_fits_139 rfl (lv_at hl 1 rfl) ?_
                  refine h_get (C := RX10) (T := TX10) (N := 38) hx hb hts i_RX10 hown hI hm_9 rfl 12 (by decide) f_45 rfl rfl dX10_fits_140 ?_
                  refine lv_iload hx hb dX10_fits_143 (lv_at hl 5 rfl) ?_
                  refine h_iald (i := te (i * 4 + p9)) hx hb hI hm_13 (by omega) (by decide) dX10_fits_145 ?_
                  refine lv_iload hx hb dX10_fits_146 (lv_at hl 0 rfl) ?_
                  refine lv_icmp_ne (tgt := 220) hx hb dX10_fits_148 (by decide) (fun c_21 => ?_) (fun c_21 => ?_)
                  · -- 148: nI (lst (te (i * 4 + p9))) ne
                    have c_21 : lst (te (i * 4 + p9)) ≠ lst (en q j) := by have h := mt (nI_eq (a := lst (te (i * 4 + p9))) (b := lst (en q j)) (by omega) (by omega)).mpr c_21; omega
                    refine lv_iinc (v := nI (6 * q + j + 1)) (lv' := [(5, .int (nI (6 * q + j + 1))), (6, .int (nI (lst (en q j)))), (0, .ref (ad 60)), (1, .int (nI i)), (2, .int (nI q)), (3, .int (nI p9)), (4, .int (nI (te (i * 4 + p9))))]) hx hb dX10_fits_220 hl (k := 6) rfl (nI_add (6 * q + j) 1) (by decide) rfl (fun ls hl => ?_)
                    refine lv_goto (tgt := 69) hx hb dX10_fits_223 (by decide) ?_
                    exact ih_8 (j + 1) trx Mx Hx locsx ls (by omega) (by omega) (fj_no htr (fun x h9 => h9.2.2.elim (fun g9 => absurd g9.2.1 (by assumption)) (fun g9 => absurd g9.1 (by omega)))) hI hm_4 hm_5 (fun j q0 q1 => hF_7 j q0 q1) (lv_sub hl [2, 3, 4, 5, 6, 0] rfl)
                  · -- 148: nI (lst (te (i * 4 + p9))) eq
                    have c_21 : lst (te (i * 4 + p9)) = lst (en q j) := (nI_eq (a := lst (te (i * 4 + p9))) (b := lst (en q j)) (by omega) (by omega)).mp (c_21)
                    refine lv_aload_n hx hb dX10_fits_151 rfl (lv_at hl 1 rfl) ?_
                    refine lv_iload_n hx hb dX10_fits_152 rfl (lv_at hl 2 rfl) ?_
                    refine lv_iload_n hx hb dX10_fits_153 rfl (lv_at hl 3 rfl) ?_
                    refine lv_iload_n hx hb dX10_fits_154 rfl (lv_at hl 4 rfl) ?_
                    refine lv_iconst (v := nI 1) hx hb dX10_fits_155 (by decide) ?_
                    refine lv_iadd hx hb dX10_fits_156 ?_
                    refine n_eq (nI_add p9 1) ?_
                    refine k_Nv (va_runV (As := [.int (nI i), .int (nI q), .int (nI (p9 + 1))]) (rest := []) ⟨hx, hb, hml, hown, hts⟩ (c_X10_fits_3 l G z ad Mx (th := th) (ln := ln) (on := on) (ao := ao) (vr := vr) (sn := sn) (tp := tp) (pt := pt) (zs := zs) (bg := bg) (fa := fa) (n := n) (kd := kd) (fm := fm) (to := to) (sz := sz) (rl := rl) (en := en) (mk := mk) (mf := mf) (mu := mu) (mz := mz) (rr := rr) (ee := ee) (lst := lst) (ap := ap) (pr := pr) (pf := pf) (ro := ro) (te := te) (tr := trx) (gv := gv) (i := i) (q := q) (p9 := p9 + 1) hm_9 hm_10 hm_11 hm_12 hm_13 hm_14 hm_15 hm_16 hm_4 hm_5 hw hmr (by omega) (by omega) (by omega) hpp hgv hlst (by omega)) (cwV 3 hts (gV (lwg_of t_1331 rfl) (lwg_of t_1333 rfl) (lwg_of ts_41 rfl) (lwg_of t_13 rfl) (lwg_of t_1334 rfl)) rfl rfl rfl (by decide +kernel) ⟨Nat.le_of_ble_eq_true rfl, Nat.le_of_ble_eq_true rfl⟩) (hI.preV hm_9 rfl) rfl rfl hl.1 rfl (lv_room (Nat.le_of_ble_eq_true rfl)) dX10_fits_157 ⟨Nat.le_of_ble_eq_true rfl, Nat.le_of_ble_eq_true rfl⟩) hI (fun M_24 H_25 locs_26 hp_23 hI => ?_)
                    obtain ⟨tr2_31, hm_27, hm_28, hF_29, hP_30⟩ := hp_23
                    have hm_32 : M_24 60 = some (cModel ad th ln on ao vr sn tp pt zs bg fa) := by rw [hF_29 60 (by omega) (by omega)]; exact hm_9
                    have hm_33 : M_24 68 = some (aI G 121 (nF mz)) := by rw [hF_29 68 (by omega) (by omega)]; exact hm_10
                    have hm_34 : M_24 69 = some (aI G 726 (nF rr)) := by rw [hF_29 69 (by omega) (by omega)]; exact hm_11
                    have hm_35 : M_24 70 = some (aI G 726 (nF ee)) := by rw [hF_29 70 (by omega) (by omega)]; exact hm_12
                    have hm_36 : M_24 71 = some (aI G 40 (nF lst)) := by rw [hF_29 71 (by omega) (by omega)]; exact hm_13
                    have hm_37 : M_24 77 = some (aI G 12 (nF ap)) := by rw [hF_29 77 (by omega) (by omega)]; exact hm_14
                    have hm_38 : M_24 78 = some (aI G 48 pr) := by rw [hF_29 78 (by omega) (by omega)]; exact hm_15
                    have hm_39 : M_24 79 = some (aI G 48 pf) := by rw [hF_29 79 (by omega) (by omega)]; exact hm_16
                    have hF_40 : ∀ j : Nat, j ≠ 82 → j ≠ 83 → M_24 j = M j := fun j q0 q1 => (hF_29 j q0 q1).trans (hF_7 j q0 q1)
                    refine lv_goto (tgt := 220) hx hb dX10_fits_160 (by decide) ?_
                    refine lv_iinc (v := nI (6 * q + j + 1)) (lv' := [(5, .int (nI (6 * q + j + 1))), (6, .int (nI (lst (en q j)))), (0, .ref (ad 60)), (1, .int (nI i)), (2, .int (nI q)), (3, .int (nI p9)), (4, .int (nI (te (i * 4 + p9))))]) hx hb dX10_fits_220 hl (k := 6) rfl (nI_add (6 * q + j) 1) (by decide) rfl (fun ls hl => ?_)
                    refine lv_goto (tgt := 69) hx hb dX10_fits_223 (by decide) ?_
                    exact ih_8 (j + 1) tr2_31 M_24 H_25 locs_26 ls (by omega) (by omega) (fj_yes htr hP_30 (fun x => ⟨fun h9 => h9.2.2.elim (fun g9 => g9.2.2) (fun g9 => absurd g9.1 (by omega)), fun f9 => ⟨by assumption, by assumption, Or.inl ⟨by omega, by assumption, f9⟩⟩⟩)) hI hm_27 hm_28 (fun j q0 q1 => hF_40 j q0 q1) (lv_sub hl [2, 3, 4, 5, 6, 0] rfl)
              · -- 114: nI (en q j) ge
                have c_19 : 40 ≤ en q j := by have h := mt (nI_ltI (a := en q j) (b := 40) (by omega) (by omega)).mpr c_19; omega
                refine lv_goto (tgt := 220) hx hb dX10_fits_117 (by decide) ?_
                refine lv_iinc (v := nI (6 * q + j + 1)) (lv' := [(5, .int (nI (6 * q + j + 1))), (0, .ref (ad 60)), (1, .int (nI i)), (2, .int (nI q)), (3, .int (nI p9)), (4, .int (nI (te (i * 4 + p9))))]) hx hb dX10_fits_220 hl (k := 5) rfl (nI_add (6 * q + j) 1) (by decide) rfl (fun ls hl => ?_)
                refine lv_goto (tgt := 69) hx hb dX10_fits_223 (by decide) ?_
                exact ih_8 (j + 1) trx Mx Hx locsx ls (by omega) (by omega) (fj_no htr (fun x h9 => absurd h9.2.1 (by omega))) hI hm_4 hm_5 (fun j q0 q1 => hF_7 j q0 q1) (lv_sub hl [1, 2, 3, 4, 5, 0] rfl)
      exact lp69_3 ((sz q - 0) + 1) 0 tr M s.heap [] ls (Nat.lt_succ_self _) (by omega) (fun x => ⟨Or.inl, fun h9 => h9.elim id (fun ⟨k9, h8, _⟩ => absurd h8 (Nat.not_lt_zero k9))⟩) hI h82 h83 (fun j _ _ => rfl) (lv_sub hl [2, 3, 4, 5, 1, 0] rfl)
    · skip
      refine h_iald (i := (4 * i) + p9) hx hb hI h79 (by omega) (by decide) dX10_fits_60 ?_
      refine n_eq (show _ = tmI (te (i * 4 + p9)) from hpf9) ?_
      refine lv_istore (lv' := [(4, .int (tmI (te (i * 4 + p9)))), (0, .ref (ad 60)), (1, .int (nI i)), (2, .int (nI q)), (3, .int (nI p9))]) hx hb dX10_fits_61 hl (by decide) rfl (fun ls hl => ?_)
      refine lv_bipush (v := nI 6) hx hb dX10_fits_63 (by decide) ?_
      refine lv_iload_n hx hb dX10_fits_65 rfl (lv_at hl 3 rfl) ?_
      refine lv_imul hx hb dX10_fits_66 ?_
      refine n_eq (pk_mul 6 q) ?_
      refine lv_istore (lv' := [(5, .int (nI (6 * q))), (4, .int (tmI (te (i * 4 + p9)))), (0, .ref (ad 60)), (1, .int (nI i)), (2, .int (nI q)), (3, .int (nI p9))]) hx hb dX10_fits_67 hl (by decide) rfl (fun ls hl => ?_)
      have lp69_41 : ∀ (fuel : Nat) (j : Nat) (trx : Nat → Bool) (Mx : Mem) (Hx : Heap) (locsx : List Loc) (ls : Array Slot), (sz q - j) < fuel → (j ≤ sz q) → (∀ x, trx x = true ↔ tr x = true ∨ ∃ j9, j9 < j ∧ ftJ sz rl en lst ro te i q 3 p9 gv x j9) → Iv G z ad Mx s Hx locsx → Mx 82 = some (aZ G 384000 (bF trx)) → Mx 83 = some (aI G 3 (oF gv)) → (∀ j : Nat, j ≠ 82 → j ≠ 83 → Mx j = M j) → lv_has ls 9 [(0, .ref (ad 60)), (1, .int (nI i)), (2, .int (nI q)), (3, .int (nI p9)), (4, .int (tmI (te (i * 4 + p9)))), (5, .int (nI (6 * q + j)))] → W p l e (headSpec wsX10_fits rm_c_X10_fits_4).room s m ([.ref (ad 60), .int (nI i), .int (nI q), .int (nI p9)] : List Value).toArray below meth c Hx locsx 0 0 Q (F0 m 69 ls []) := by
        intro fuel
        induction fuel with
        | zero => intro j trx Mx Hx locsx ls hfu hj htr hI hm_42 hm_43 hF_45 hl; exact absurd hfu (Nat.not_lt_zero _)
        | succ fuel ih_46 =>
          intro j trx Mx Hx locsx ls hfu hj htr hI hm_42 hm_43 hF_45 hl
          have hm_47 : Mx 60 = some (cModel ad th ln on ao vr sn tp pt zs bg fa) := by rw [hF_45 60 (by omega) (by omega)]; exact h60
          have hm_48 : Mx 68 = some (aI G 121 (nF mz)) := by rw [hF_45 68 (by omega) (by omega)]; exact h68
          have hm_49 : Mx 69 = some (aI G 726 (nF rr)) := by rw [hF_45 69 (by omega) (by omega)]; exact h69
          have hm_50 : Mx 70 = some (aI G 726 (nF ee)) := by rw [hF_45 70 (by omega) (by omega)]; exact h70
          have hm_51 : Mx 71 = some (aI G 40 (nF lst)) := by rw [hF_45 71 (by omega) (by omega)]; exact h71
          have hm_52 : Mx 77 = some (aI G 12 (nF ap)) := by rw [hF_45 77 (by omega) (by omega)]; exact h77
          have hm_53 : Mx 78 = some (aI G 48 pr) := by rw [hF_45 78 (by omega) (by omega)]; exact h78
          have hm_54 : Mx 79 = some (aI G 48 pf) := by rw [hF_45 79 (by omega) (by omega)]; exact h79
          refine lv_iload hx hb dX10_fits_69 (lv_at hl 5 rfl) ?_
          refine lv_bipush (v := nI 6) hx hb dX10_fits_71 (by decide) ?_
          refine lv_iload_n hx hb dX10_fits_73 rfl (lv_at hl 2 rfl) ?_
          refine lv_imul hx hb dX10_fits_74 ?_
          refine n_eq (pk_mul 6 q) ?_
          refine lv_aload_n hx hb dX10_fits_75 rfl (lv_at hl 0 rfl) ?_
          refine h_get (C := RX10) (T := TX10) (N := 38) hx hb hts i_RX10 hown hI hm_47 rfl 8 (by decide) f_36 rfl rfl dX10_fits_76 ?_
          refine lv_iload_n hx hb dX10_fits_79 rfl (lv_at hl 2 rfl) ?_
          refine h_iald (i := q) hx hb hI hm_48 (by omega) (by decide) dX10_fits_80 ?_
          refine n_eq (show _ = nI (sz q) from congrArg nI hmz) ?_
          refine lv_iadd hx hb dX10_fits_81 ?_
          refine n_eq (nI_add (6 * q) (sz q)) ?_
          refine lv_icmp_ge (tgt := 226) hx hb dX10_fits_82 (by decide) (fun c_55 => ?_) (fun c_55 => ?_)
          · -- 82: nI (6 * q + j) ge
            have c_55 : (6 * q) + (sz q) ≤ 6 * q + j := (nI_leI (a := (6 * q) + (sz q)) (b := 6 * q + j) (by omega) (by omega)).mp (c_55)
            subst hQ
            exact e_Nv hx hb hr hlocks hI ⟨trx, hm_42, hm_43, (fun j q0 q1 => hF_45 j q0 q1), (fun x => by rw [htr x, show j = sz q by omega]; exact Iff.rfl)⟩ dX10_fits_226
          · -- 82: nI (6 * q + j) lt
            have c_55 : 6 * q + j < (6 * q) + (sz q) := by have h := mt (nI_leI (a := (6 * q) + (sz q)) (b := 6 * q + j) (by omega) (by omega)).mpr c_55; omega
            obtain ⟨hrj, hej⟩ := hmj j (by omega)
            obtain ⟨hr6, he4⟩ := hje j (by omega)
            refine lv_aload_n hx hb dX10_fits_85 rfl (lv_at hl 0 rfl) ?_
            refine h_get (C := RX10) (T := TX10) (N := 38) hx hb hts i_RX10 hown hI hm_47 rfl 9 (by decide) f_39 rfl rfl dX10_fits_86 ?_
            refine lv_iload hx hb dX10_fits_89 (lv_at hl 5 rfl) ?_
            refine h_iald (i := 6 * q + j) hx hb hI hm_49 (by omega) (by decide) dX10_fits_91 ?_
            refine n_eq (show _ = nI (rl q j) from congrArg nI hrj) ?_
            refine lv_aload_n hx hb dX10_fits_92 rfl (lv_at hl 0 rfl) ?_
            refine h_get (C := RX10) (T := TX10) (N := 38) hx hb hts i_RX10 hown hI hm_47 rfl 20 (by decide) f_66 rfl rfl dX10_fits_93 ?_
            refine lv_iconst (v := nI 4) hx hb dX10_fits_96 (by decide) ?_
            refine lv_iload_n hx hb dX10_fits_97 rfl (lv_at hl 1 rfl) ?_
            refine lv_imul hx hb dX10_fits_98 ?_
            refine n_eq (pk_mul 4 i) ?_
            refine lv_iload_n hx hb dX10_fits_99 rfl (lv_at hl 3 rfl) ?_
            refine lv_iadd hx hb dX10_fits_100 ?_
            refine n_eq (nI_add (4 * i) p9) ?_
            refine h_iald (i := (4 * i) + p9) hx hb hI hm_53 (by omega) (by decide) dX10_fits_101 ?_
            refine n_eq (show _ = nI (ro (i * 4 + p9)) from hpr9) ?_
            refine lv_icmp_ne (tgt := 220) hx hb dX10_fits_102 (by decide) (fun c_56 => ?_) (fun c_56 => ?_)
            · -- 102: nI (rl q j) ne
              have c_56 : rl q j ≠ ro (i * 4 + p9) := by have h := mt (nI_eq (a := rl q j) (b := ro (i * 4 + p9)) (by omega) (by omega)).mpr c_56; omega
              refine lv_iinc (v := nI (6 * q + j + 1)) (lv' := [(5, .int (nI (6 * q + j + 1))), (0, .ref (ad 60)), (1, .int (nI i)), (2, .int (nI q)), (3, .int (nI p9)), (4, .int (tmI (te (i * 4 + p9))))]) hx hb dX10_fits_220 hl (k := 5) rfl (nI_add (6 * q + j) 1) (by decide) rfl (fun ls hl => ?_)
              refine lv_goto (tgt := 69) hx hb dX10_fits_223 (by decide) ?_
              exact ih_46 (j + 1) trx Mx Hx locsx ls (by omega) (by omega) (fj_no htr (fun x h9 => absurd h9.1 (by assumption))) hI hm_42 hm_43 (fun j q0 q1 => hF_45 j q0 q1) (lv_sub hl [1, 2, 3, 4, 5, 0] rfl)
            · -- 102: nI (rl q j) eq
              have c_56 : rl q j = ro (i * 4 + p9) := (nI_eq (a := rl q j) (b := ro (i * 4 + p9)) (by omega) (by omega)).mp (c_56)
              refine lv_aload_n hx hb dX10_fits_105 rfl (lv_at hl 0 rfl) ?_
              refine h_get (C := RX10) (T := TX10) (N := 38) hx hb hts i_RX10 hown hI hm_47 rfl 10 (by decide) f_42 rfl rfl dX10_fits_106 ?_
              refine lv_iload hx hb dX10_fits_109 (lv_at hl 5 rfl) ?_
              refine h_iald (i := 6 * q + j) hx hb hI hm_50 (by omega) (by decide) dX10_fits_111 ?_
              refine n_eq (show _ = nI (en q j) from congrArg nI hej) ?_
              refine lv_bipush (v := nI 40) hx hb dX10_fits_112 (by decide) ?_
              refine lv_icmp_lt (tgt := 120) hx hb dX10_fits_114 (by decide) (fun c_57 => ?_) (fun c_57 => ?_)
              · -- 114: nI (en q j) lt
                have c_57 : en q j < 40 := (nI_ltI (a := en q j) (b := 40) (by omega) (by omega)).mp (c_57)
                have hle := hlst (en q j) (by omega)
                refine lv_aload_n hx hb dX10_fits_120 rfl (lv_at hl 0 rfl) ?_
                refine h_get (C := RX10) (T := TX10) (N := 38) hx hb hts i_RX10 hown hI hm_47 rfl 12 (by decide) f_45 rfl rfl dX10_fits_121 ?_
                refine lv_aload_n hx hb dX10_fits_124 rfl (lv_at hl 0 rfl) ?_
                refine h_get (C := RX10) (T := TX10) (N := 38) hx hb hts i_RX10 hown hI hm_47 rfl 10 (by decide) f_42 rfl rfl dX10_fits_125 ?_
                refine lv_iload hx hb dX10_fits_128 (lv_at hl 5 rfl) ?_
                refine h_iald (i := 6 * q + j) hx hb hI hm_50 (by omega) (by decide) dX10_fits_130 ?_
                refine n_eq (show _ = nI (en q j) from congrArg nI hej) ?_
                refine h_iald (i := en q j) hx hb hI hm_51 (by omega) (by decide) dX10_fits_131 ?_
                refine lv_istore (lv' := [(6, .int (nI (lst (en q j)))), (0, .ref (ad 60)), (1, .int (nI i)), (2, .int (nI q)), (3, .int (nI p9)), (4, .int (tmI (te (i * 4 + p9)))), (5, .int (nI (6 * q + j)))]) hx hb dX10_fits_132 hl (by decide) rfl (fun ls hl => ?_)
                refine lv_iload hx hb dX10_fits_134 (lv_at hl 5 rfl) ?_
                refine lv_if_lt (tgt := 163) hx hb dX10_fits_136 (by decide) (fun c_58 => ?_) (fun c_58 => ?_)
                · -- 136: tmI (te (i * 4 + p9)) lt
                  refine lv_iconst (v := (-1)) hx hb dX10_fits_163 (by decide) ?_
                  refine lv_iload hx hb dX10_fits_164 (lv_at hl 5 rfl) ?_
                  refine lv_isub hx hb dX10_fits_166 ?_
                  refine n_eq (show _ = nI (te (i * 4 + p9) - 40) from tm_v _ h43 (by omega)) ?_
                  refine lv_istore (lv' := [(7, .int (nI (te (i * 4 + p9) - 40))), (6, .int (nI (lst (en q j)))), (0, .ref (ad 60)), (1, .int (nI i)), (2, .int (nI q)), (3, .int (nI p9)), (4, .int (tmI (te (i * 4 + p9)))), (5, .int (nI (6 * q + j)))]) hx hb dX10_fits_167 hl (by decide) rfl (fun ls hl => ?_)
                  refine lv_aload_n hx hb dX10_fits_169 rfl (lv_at hl 2 rfl) ?_
                  refine h_get (C := RX10) (T := TX10) (N := 38) hx hb hts i_RX10 hown hI hm_47 rfl 33 (by decide) f_86 rfl rfl dX10_fits_170 ?_
                  refine lv_iload hx hb dX10_fits_173 (lv_at hl 0 rfl) ?_
                  refine h_iald (i := te (i * 4 + p9) - 40) hx hb hI hm_43 (by omega) (by decide) dX10_fits_175 ?_
                  refine lv_istore (lv' := [(8, .int (oI (gv (te (i * 4 + p9) - 40)))), (7, .int (nI (te (i * 4 + p9) - 40))), (6, .int (nI (lst (en q j)))), (0, .ref (ad 60)), (1, .int (nI i)), (2, .int (nI q)), (3, .int (nI p9)), (4, .int (tmI (te (i * 4 + p9)))), (5, .int (nI (6 * q + j)))]) hx hb dX10_fits_176 hl (by decide) rfl (fun ls hl => ?_)
                  have hgd := gz_lt (hgv (te (i * 4 + p9) - 40) (by omega))
                  by_cases hc_59 : gv (te (i * 4 + p9) - 40) = none
                  · skip
                    refine lv_iload hx hb dX10_fits_178 (lv_at hl 0 rfl) ?_
                    refine n_eq (show _ = (-1) from congrArg oI hc_59) ?_
                    refine lv_if_lt (tgt := 193) hx hb dX10_fits_180 (by decide) (fun c_60 => ?_) (fun c_60 => ?_)
                    · -- 180: (-1) lt
                      refine lv_aload_n hx hb dX10_fits_193 rfl (lv_at hl 3 rfl) ?_
                      refine h_get (C := RX10) (T := TX10) (N := 38) hx hb hts i_RX10 hown hI hm_47 rfl 33 (by decide) f_86 rfl rfl dX10_fits_194 ?_
                      refine lv_iload hx hb dX10_fits_197 (lv_at hl 1 rfl) ?_
                      refine lv_iload hx hb dX10_fits_199 (lv_at hl 2 rfl) ?_
                      refine h_iast (i := te (i * 4 + p9) - 40) (x := nI (lst (en q j))) hx hb hI hm_43 (by omega) (by decide) dX10_fits_201 (fun M_61 H_62 locs_63 eM_64 hI => ?_)
                      rw [upd_oF_n] at eM_64
                      have hm_65 : M_61 60 = some (cModel ad th ln on ao vr sn tp pt zs bg fa) := by rw [eM_64, va_up_ne _ _ (by decide)]; exact hm_47
                      have hm_66 : M_61 68 = some (aI G 121 (nF mz)) := by rw [eM_64, va_up_ne _ _ (by decide)]; exact hm_48
                      have hm_67 : M_61 69 = some (aI G 726 (nF rr)) := by rw [eM_64, va_up_ne _ _ (by decide)]; exact hm_49
                      have hm_68 : M_61 70 = some (aI G 726 (nF ee)) := by rw [eM_64, va_up_ne _ _ (by decide)]; exact hm_50
                      have hm_69 : M_61 71 = some (aI G 40 (nF lst)) := by rw [eM_64, va_up_ne _ _ (by decide)]; exact hm_51
                      have hm_70 : M_61 77 = some (aI G 12 (nF ap)) := by rw [eM_64, va_up_ne _ _ (by decide)]; exact hm_52
                      have hm_71 : M_61 78 = some (aI G 48 pr) := by rw [eM_64, va_up_ne _ _ (by decide)]; exact hm_53
                      have hm_72 : M_61 79 = some (aI G 48 pf) := by rw [eM_64, va_up_ne _ _ (by decide)]; exact hm_54
                      have hm_73 : M_61 82 = some (aZ G 384000 (bF trx)) := by rw [eM_64, va_up_ne _ _ (by decide)]; exact hm_42
                      have hm_74 : M_61 83 = some (aI G 3 (oF (va_up gv (te (i * 4 + p9) - 40) (some (lst (en q j)))))) := by rw [eM_64]; exact va_up_self _ _ _
                      have hF_75 : ∀ j : Nat, j ≠ 82 → j ≠ 83 → M_61 j = M j := fun j q0 q1 => by rw [eM_64, va_up_ne _ _ q1]; exact hF_45 j q0 q1
                      refine lv_aload_n hx hb dX10_fits_202 rfl (lv_at hl 3 rfl) ?_
                      refine lv_iload_n hx hb dX10_fits_203 rfl (lv_at hl 4 rfl) ?_
                      refine lv_iload_n hx hb dX10_fits_204 rfl (lv_at hl 5 rfl) ?_
                      refine lv_iload_n hx hb dX10_fits_205 rfl (lv_at hl 6 rfl) ?_
                      refine lv_iconst (v := nI 1) hx hb dX10_fits_206 (by decide) ?_
                      refine lv_iadd hx hb dX10_fits_207 ?_
                      refine n_eq (nI_add p9 1) ?_
                      refine k_Nv (va_runV (As := [.int (nI i), .int (nI q), .int (nI (p9 + 1))]) (rest := []) ⟨hx, hb, hml, hown, hts⟩ (c_X10_fits_3 l G z ad M_61 (th := th) (ln := ln) (on := on) (ao := ao) (vr := vr) (sn := sn) (tp := tp) (pt := pt) (zs := zs) (bg := bg) (fa := fa) (n := n) (kd := kd) (fm := fm) (to := to) (sz := sz) (rl := rl) (en := en) (mk := mk) (mf := mf) (mu := mu) (mz := mz) (rr := rr) (ee := ee) (lst := lst) (ap := ap) (pr := pr) (pf := pf) (ro := ro) (te := te) (tr := trx) (gv := (va_up gv (te (i * 4 + p9) - 40) (some (lst (en q j))))) (i := i) (q := q) (p9 := p9 + 1) hm_65 hm_66 hm_67 hm_68 hm_69 hm_70 hm_71 hm_72 hm_73 hm_74 hw hmr (by omega) (by omega) (by omega) hpp (gv_up hgv hle) hlst (by omega)) (cwV 3 hts (gV (lwg_of t_1331 rfl) (lwg_of t_1333 rfl) (lwg_of ts_41 rfl) (lwg_of t_13 rfl) (lwg_of t_1334 rfl)) rfl rfl rfl (by decide +kernel) ⟨Nat.le_of_ble_eq_true rfl, Nat.le_of_ble_eq_true rfl⟩) (hI.preV hm_65 rfl) rfl rfl hl.1 rfl (lv_room (Nat.le_of_ble_eq_true rfl)) dX10_fits_208 ⟨Nat.le_of_ble_eq_true rfl, Nat.le_of_ble_eq_true rfl⟩) hI (fun M_78 H_79 locs_80 hp_77 hI => ?_)
                      obtain ⟨tr2_85, hm_81, hm_82, hF_83, hP_84⟩ := hp_77
                      have hm_86 : M_78 60 = some (cModel ad th ln on ao vr sn tp pt zs bg fa) := by rw [hF_83 60 (by omega) (by omega)]; exact hm_65
                      have hm_87 : M_78 68 = some (aI G 121 (nF mz)) := by rw [hF_83 68 (by omega) (by omega)]; exact hm_66
                      have hm_88 : M_78 69 = some (aI G 726 (nF rr)) := by rw [hF_83 69 (by omega) (by omega)]; exact hm_67
                      have hm_89 : M_78 70 = some (aI G 726 (nF ee)) := by rw [hF_83 70 (by omega) (by omega)]; exact hm_68
                      have hm_90 : M_78 71 = some (aI G 40 (nF lst)) := by rw [hF_83 71 (by omega) (by omega)]; exact hm_69
                      have hm_91 : M_78 77 = some (aI G 12 (nF ap)) := by rw [hF_83 77 (by omega) (by omega)]; exact hm_70
                      have hm_92 : M_78 78 = some (aI G 48 pr) := by rw [hF_83 78 (by omega) (by omega)]; exact hm_71
                      have hm_93 : M_78 79 = some (aI G 48 pf) := by rw [hF_83 79 (by omega) (by omega)]; exact hm_72
                      have hF_94 : ∀ j : Nat, j ≠ 82 → j ≠ 83 → M_78 j = M j := fun j q0 q1 => (hF_83 j q0 q1).trans (hF_75 j q0 q1)
                      refine lv_aload_n hx hb dX10_fits_211 rfl (lv_at hl 3 rfl) ?_
                      refine h_get (C := RX10) (T := TX10) (N := 38) hx hb hts i_RX10 hown hI hm_86 rfl 33 (by decide) f_86 rfl rfl dX10_fits_212 ?_
                      refine lv_iload hx hb dX10_fits_215 (lv_at hl 1 rfl) ?_
                      refine lv_iload hx hb dX10_fits_217 (lv_at hl 0 rfl) ?_
                      refine h_iast (i := te (i * 4 + p9) - 40) (x := oI (gv (te (i * 4 + p9) - 40))) hx hb hI hm_82 (by omega) (by decide) dX10_fits_219 (fun M_95 H_96 locs_97 eM_98 hI => ?_)
                      rw [upd_oF] at eM_98
                      have hm_99 : M_95 60 = some (cModel ad th ln on ao vr sn tp pt zs bg fa) := by rw [eM_98, va_up_ne _ _ (by decide)]; exact hm_86
                      have hm_100 : M_95 68 = some (aI G 121 (nF mz)) := by rw [eM_98, va_up_ne _ _ (by decide)]; exact hm_87
                      have hm_101 : M_95 69 = some (aI G 726 (nF rr)) := by rw [eM_98, va_up_ne _ _ (by decide)]; exact hm_88
                      have hm_102 : M_95 70 = some (aI G 726 (nF ee)) := by rw [eM_98, va_up_ne _ _ (by decide)]; exact hm_89
                      have hm_103 : M_95 71 = some (aI G 40 (nF lst)) := by rw [eM_98, va_up_ne _ _ (by decide)]; exact hm_90
                      have hm_104 : M_95 77 = some (aI G 12 (nF ap)) := by rw [eM_98, va_up_ne _ _ (by decide)]; exact hm_91
                      have hm_105 : M_95 78 = some (aI G 48 pr) := by rw [eM_98, va_up_ne _ _ (by decide)]; exact hm_92
                      have hm_106 : M_95 79 = some (aI G 48 pf) := by rw [eM_98, va_up_ne _ _ (by decide)]; exact hm_93
                      have hm_107 : M_95 82 = some (aZ G 384000 (bF tr2_85)) := by rw [eM_98, va_up_ne _ _ (by decide)]; exact hm_81
                      have hm_108 : M_95 83 = some (aI G 3 (oF (va_up (va_up gv (te (i * 4 + p9) - 40) (some (lst (en q j)))) (te (i * 4 + p9) - 40) (gv (te (i * 4 + p9) - 40))))) := by rw [eM_98]; exact va_up_self _ _ _
                      have hF_109 : ∀ j : Nat, j ≠ 82 → j ≠ 83 → M_95 j = M j := fun j q0 q1 => by rw [eM_98, va_up_ne _ _ q1]; exact hF_94 j q0 q1
                      rw [va_back] at hm_108
                      refine lv_iinc (v := nI (6 * q + j + 1)) (lv' := [(5, .int (nI (6 * q + j + 1))), (8, .int (oI (gv (te (i * 4 + p9) - 40)))), (7, .int (nI (te (i * 4 + p9) - 40))), (6, .int (nI (lst (en q j)))), (0, .ref (ad 60)), (1, .int (nI i)), (2, .int (nI q)), (3, .int (nI p9)), (4, .int (tmI (te (i * 4 + p9))))]) hx hb dX10_fits_220 hl (k := 8) rfl (nI_add (6 * q + j) 1) (by decide) rfl (fun ls hl => ?_)
                      refine lv_goto (tgt := 69) hx hb dX10_fits_223 (by decide) ?_
                      exact ih_46 (j + 1) tr2_85 M_95 H_96 locs_97 ls (by omega) (by omega) (fj_yes htr hP_84 (fun x => ⟨fun h9 => h9.2.2.elim (fun g9 => absurd g9.1 (by omega)) (fun g9 => g9.2.2), fun f9 => ⟨by assumption, by assumption, Or.inr ⟨by omega, Or.inl hc_59, f9⟩⟩⟩)) hI hm_107 hm_108 (fun j q0 q1 => hF_109 j q0 q1) (lv_sub hl [4, 5, 6, 7, 8, 0] rfl)
                    · -- 180: (-1) ge
                      exact absurd (by decide) c_60
                  · skip
                    refine lv_iload hx hb dX10_fits_178 (lv_at hl 0 rfl) ?_
                    refine n_eq (show _ = nI ((gv (te (i * 4 + p9) - 40)).getD 0) from o_some hc_59) ?_
                    refine lv_if_lt (tgt := 193) hx hb dX10_fits_180 (by decide) (fun c_110 => ?_) (fun c_110 => ?_)
                    · -- 180: nI ((gv (te (i * 4 + p9) - 40)).getD 0) lt
                      have c_110 : (gv (te (i * 4 + p9) - 40)).getD 0 < 0 := (nI_ltI (a := (gv (te (i * 4 + p9) - 40)).getD 0) (b := 0) (by omega) (by omega)).mp (c_110)
                      omega
                    · -- 180: nI ((gv (te (i * 4 + p9) - 40)).getD 0) ge
                      have c_110 : 0 ≤ (gv (te (i * 4 + p9) - 40)).getD 0 := by have h := mt (nI_ltI (a := (gv (te (i * 4 + p9) - 40)).getD 0) (b := 0) (by omega) (by omega)).mpr c_110; omega
                      refine lv_iload hx hb dX10_fits_183 (lv_at hl 0 rfl) ?_
                      refine n_eq (show _ = nI ((gv (te (i * 4 + p9) - 40)).getD 0) from o_some hc_59) ?_
                      refine lv_iload hx hb dX10_fits_185 (lv_at hl 2 rfl) ?_
                      refine lv_icmp_eq (tgt := 193) hx hb dX10_fits_187 (by decide) (fun c_111 => ?_) (fun c_111 => ?_)
                      · -- 187: nI ((gv (te (i * 4 + p9) - 40)).getD 0) eq
                        have c_111 : (gv (te (i * 4 + p9) - 40)).getD 0 = lst (en q j) := (nI_eq (a := (gv (te (i * 4 + p9) - 40)).getD 0) (b := lst (en q j)) (by omega) (by omega)).mp (c_111)
                        refine lv_aload_n hx hb dX10_fits_193 rfl (lv_at hl 3 rfl) ?_
                        refine h_get (C := RX10) (T := TX10) (N := 38) hx hb hts i_RX10 hown hI hm_47 rfl 33 (by decide) f_86 rfl rfl dX10_fits_194 ?_
                        refine lv_iload hx hb dX10_fits_197 (lv_at hl 1 rfl) ?_
                        refine lv_iload hx hb dX10_fits_199 (lv_at hl 2 rfl) ?_
                        refine h_iast (i := te (i * 4 + p9) - 40) (x := nI (lst (en q j))) hx hb hI hm_43 (by omega) (by decide) dX10_fits_201 (fun M_112 H_113 locs_114 eM_115 hI => ?_)
                        rw [upd_oF_n] at eM_115
                        have hm_116 : M_112 60 = some (cModel ad th ln on ao vr sn tp pt zs bg fa) := by rw [eM_115, va_up_ne _ _ (by decide)]; exact hm_47
                        have hm_117 : M_112 68 = some (aI G 121 (nF mz)) := by rw [eM_115, va_up_ne _ _ (by decide)]; exact hm_48
                        have hm_118 : M_112 69 = some (aI G 726 (nF rr)) := by rw [eM_115, va_up_ne _ _ (by decide)]; exact hm_49
                        have hm_119 : M_112 70 = some (aI G 726 (nF ee)) := by rw [eM_115, va_up_ne _ _ (by decide)]; exact hm_50
                        have hm_120 : M_112 71 = some (aI G 40 (nF lst)) := by rw [eM_115, va_up_ne _ _ (by decide)]; exact hm_51
                        have hm_121 : M_112 77 = some (aI G 12 (nF ap)) := by rw [eM_115, va_up_ne _ _ (by decide)]; exact hm_52
                        have hm_122 : M_112 78 = some (aI G 48 pr) := by rw [eM_115, va_up_ne _ _ (by decide)]; exact hm_53
                        have hm_123 : M_112 79 = some (aI G 48 pf) := by rw [eM_115, va_up_ne _ _ (by decide)]; exact hm_54
                        have hm_124 : M_112 82 = some (aZ G 384000 (bF trx)) := by rw [eM_115, va_up_ne _ _ (by decide)]; exact hm_42
                        have hm_125 : M_112 83 = some (aI G 3 (oF (va_up gv (te (i * 4 + p9) - 40) (some (lst (en q j)))))) := by rw [eM_115]; exact va_up_self _ _ _
                        have hF_126 : ∀ j : Nat, j ≠ 82 → j ≠ 83 → M_112 j = M j := fun j q0 q1 => by rw [eM_115, va_up_ne _ _ q1]; exact hF_45 j q0 q1
                        refine lv_aload_n hx hb dX10_fits_202 rfl (lv_at hl 3 rfl) ?_
                        refine lv_iload_n hx hb dX10_fits_203 rfl (lv_at hl 4 rfl) ?_
                        refine lv_iload_n hx hb dX10_fits_204 rfl (lv_at hl 5 rfl) ?_
                        refine lv_iload_n hx hb dX10_fits_205 rfl (lv_at hl 6 rfl) ?_
                        refine lv_iconst (v := nI 1) hx hb dX10_fits_206 (by decide) ?_
                        refine lv_iadd hx hb dX10_fits_207 ?_
                        refine n_eq (nI_add p9 1) ?_
                        refine k_Nv (va_runV (As := [.int (nI i), .int (nI q), .int (nI (p9 + 1))]) (rest := []) ⟨hx, hb, hml, hown, hts⟩ (c_X10_fits_3 l G z ad M_112 (th := th) (ln := ln) (on := on) (ao := ao) (vr := vr) (sn := sn) (tp := tp) (pt := pt) (zs := zs) (bg := bg) (fa := fa) (n := n) (kd := kd) (fm := fm) (to := to) (sz := sz) (rl := rl) (en := en) (mk := mk) (mf := mf) (mu := mu) (mz := mz) (rr := rr) (ee := ee) (lst := lst) (ap := ap) (pr := pr) (pf := pf) (ro := ro) (te := te) (tr := trx) (gv := (va_up gv (te (i * 4 + p9) - 40) (some (lst (en q j))))) (i := i) (q := q) (p9 := p9 + 1) hm_116 hm_117 hm_118 hm_119 hm_120 hm_121 hm_122 hm_123 hm_124 hm_125 hw hmr (by omega) (by omega) (by omega) hpp (gv_up hgv hle) hlst (by omega)) (cwV 3 hts (gV (lwg_of t_1331 rfl) (lwg_of t_1333 rfl) (lwg_of ts_41 rfl) (lwg_of t_13 rfl) (lwg_of t_1334 rfl)) rfl rfl rfl (by decide +kernel) ⟨Nat.le_of_ble_eq_true rfl, Nat.le_of_ble_eq_true rfl⟩) (hI.preV hm_116 rfl) rfl rfl hl.1 rfl (lv_room (Nat.le_of_ble_eq_true rfl)) dX10_fits_208 ⟨Nat.le_of_ble_eq_true rfl, Nat.le_of_ble_eq_true rfl⟩) hI (fun M_129 H_130 locs_131 hp_128 hI => ?_)
                        obtain ⟨tr2_136, hm_132, hm_133, hF_134, hP_135⟩ := hp_128
                        have hm_137 : M_129 60 = some (cModel ad th ln on ao vr sn tp pt zs bg fa) := by rw [hF_134 60 (by omega) (by omega)]; exact hm_116
                        have hm_138 : M_129 68 = some (aI G 121 (nF mz)) := by rw [hF_134 68 (by omega) (by omega)]; exact hm_117
                        have hm_139 : M_129 69 = some (aI G 726 (nF rr)) := by rw [hF_134 69 (by omega) (by omega)]; exact hm_118
                        have hm_140 : M_129 70 = some (aI G 726 (nF ee)) := by rw [hF_134 70 (by omega) (by omega)]; exact hm_119
                        have hm_141 : M_129 71 = some (aI G 40 (nF lst)) := by rw [hF_134 71 (by omega) (by omega)]; exact hm_120
                        have hm_142 : M_129 77 = some (aI G 12 (nF ap)) := by rw [hF_134 77 (by omega) (by omega)]; exact hm_121
                        have hm_143 : M_129 78 = some (aI G 48 pr) := by rw [hF_134 78 (by omega) (by omega)]; exact hm_122
                        have hm_144 : M_129 79 = some (aI G 48 pf) := by rw [hF_134 79 (by omega) (by omega)]; exact hm_123
                        have hF_145 : ∀ j : Nat, j ≠ 82 → j ≠ 83 → M_129 j = M j := fun j q0 q1 => (hF_134 j q0 q1).trans (hF_126 j q0 q1)
                        refine lv_aload_n hx hb dX10_fits_211 rfl (lv_at hl 3 rfl) ?_
                        refine h_get (C := RX10) (T := TX10) (N := 38) hx hb hts i_RX10 hown hI hm_137 rfl 33 (by decide) f_86 rfl rfl dX10_fits_212 ?_
                        refine lv_iload hx hb dX10_fits_215 (lv_at hl 1 rfl) ?_
                        refine lv_iload hx hb dX10_fits_217 (lv_at hl 0 rfl) ?_
                        refine h_iast (i := te (i * 4 + p9) - 40) (x := oI (gv (te (i * 4 + p9) - 40))) hx hb hI hm_133 (by omega) (by decide) dX10_fits_219 (fun M_146 H_147 locs_148 eM_149 hI => ?_)
                        rw [upd_oF] at eM_149
                        have hm_150 : M_146 60 = some (cModel ad th ln on ao vr sn tp pt zs bg fa) := by rw [eM_149, va_up_ne _ _ (by decide)]; exact hm_137
                        have hm_151 : M_146 68 = some (aI G 121 (nF mz)) := by rw [eM_149, va_up_ne _ _ (by decide)]; exact hm_138
                        have hm_152 : M_146 69 = some (aI G 726 (nF rr)) := by rw [eM_149, va_up_ne _ _ (by decide)]; exact hm_139
                        have hm_153 : M_146 70 = some (aI G 726 (nF ee)) := by rw [eM_149, va_up_ne _ _ (by decide)]; exact hm_140
                        have hm_154 : M_146 71 = some (aI G 40 (nF lst)) := by rw [eM_149, va_up_ne _ _ (by decide)]; exact hm_141
                        have hm_155 : M_146 77 = some (aI G 12 (nF ap)) := by rw [eM_149, va_up_ne _ _ (by decide)]; exact hm_142
                        have hm_156 : M_146 78 = some (aI G 48 pr) := by rw [eM_149, va_up_ne _ _ (by decide)]; exact hm_143
                        have hm_157 : M_146 79 = some (aI G 48 pf) := by rw [eM_149, va_up_ne _ _ (by decide)]; exact hm_144
                        have hm_158 : M_146 82 = some (aZ G 384000 (bF tr2_136)) := by rw [eM_149, va_up_ne _ _ (by decide)]; exact hm_132
                        have hm_159 : M_146 83 = some (aI G 3 (oF (va_up (va_up gv (te (i * 4 + p9) - 40) (some (lst (en q j)))) (te (i * 4 + p9) - 40) (gv (te (i * 4 + p9) - 40))))) := by rw [eM_149]; exact va_up_self _ _ _
                        have hF_160 : ∀ j : Nat, j ≠ 82 → j ≠ 83 → M_146 j = M j := fun j q0 q1 => by rw [eM_149, va_up_ne _ _ q1]; exact hF_145 j q0 q1
                        rw [va_back] at hm_159
                        refine lv_iinc (v := nI (6 * q + j + 1)) (lv' := [(5, .int (nI (6 * q + j + 1))), (8, .int (oI (gv (te (i * 4 + p9) - 40)))), (7, .int (nI (te (i * 4 + p9) - 40))), (6, .int (nI (lst (en q j)))), (0, .ref (ad 60)), (1, .int (nI i)), (2, .int (nI q)), (3, .int (nI p9)), (4, .int (tmI (te (i * 4 + p9))))]) hx hb dX10_fits_220 hl (k := 8) rfl (nI_add (6 * q + j) 1) (by decide) rfl (fun ls hl => ?_)
                        refine lv_goto (tgt := 69) hx hb dX10_fits_223 (by decide) ?_
                        exact ih_46 (j + 1) tr2_136 M_146 H_147 locs_148 ls (by omega) (by omega) (fj_yes htr hP_135 (fun x => ⟨fun h9 => h9.2.2.elim (fun g9 => absurd g9.1 (by omega)) (fun g9 => g9.2.2), fun f9 => ⟨by assumption, by assumption, Or.inr ⟨by omega, Or.inr (o_ofD hc_59 (by assumption)), f9⟩⟩⟩)) hI hm_158 hm_159 (fun j q0 q1 => hF_160 j q0 q1) (lv_sub hl [4, 5, 6, 7, 8, 0] rfl)
                      · -- 187: nI ((gv (te (i * 4 + p9) - 40)).getD 0) ne
                        have c_111 : (gv (te (i * 4 + p9) - 40)).getD 0 ≠ lst (en q j) := by have h := mt (nI_eq (a := (gv (te (i * 4 + p9) - 40)).getD 0) (b := lst (en q j)) (by omega) (by omega)).mpr c_111; omega
                        refine lv_goto (tgt := 220) hx hb dX10_fits_190 (by decide) ?_
                        refine lv_iinc (v := nI (6 * q + j + 1)) (lv' := [(5, .int (nI (6 * q + j + 1))), (8, .int (oI (gv (te (i * 4 + p9) - 40)))), (7, .int (nI (te (i * 4 + p9) - 40))), (6, .int (nI (lst (en q j)))), (0, .ref (ad 60)), (1, .int (nI i)), (2, .int (nI q)), (3, .int (nI p9)), (4, .int (tmI (te (i * 4 + p9))))]) hx hb dX10_fits_220 hl (k := 8) rfl (nI_add (6 * q + j) 1) (by decide) rfl (fun ls hl => ?_)
                        refine lv_goto (tgt := 69) hx hb dX10_fits_223 (by decide) ?_
                        exact ih_46 (j + 1) trx Mx Hx locsx ls (by omega) (by omega) (fj_no htr (fun x h9 => h9.2.2.elim (fun g9 => absurd g9.1 (by omega)) (fun g9 => g9.2.1.elim (fun e9 => hc_59 e9) (fun e9 => absurd (o_getD e9) (by assumption))))) hI hm_42 hm_43 (fun j q0 q1 => hF_45 j q0 q1) (lv_sub hl [4, 5, 6, 7, 8, 0] rfl)
                · -- 136: tmI (te (i * 4 + p9)) ge
                  exact absurd (tm_neg _ h43 (by omega)) (by assumption)
              · -- 114: nI (en q j) ge
                have c_57 : 40 ≤ en q j := by have h := mt (nI_ltI (a := en q j) (b := 40) (by omega) (by omega)).mpr c_57; omega
                refine lv_goto (tgt := 220) hx hb dX10_fits_117 (by decide) ?_
                refine lv_iinc (v := nI (6 * q + j + 1)) (lv' := [(5, .int (nI (6 * q + j + 1))), (0, .ref (ad 60)), (1, .int (nI i)), (2, .int (nI q)), (3, .int (nI p9)), (4, .int (tmI (te (i * 4 + p9))))]) hx hb dX10_fits_220 hl (k := 5) rfl (nI_add (6 * q + j) 1) (by decide) rfl (fun ls hl => ?_)
                refine lv_goto (tgt := 69) hx hb dX10_fits_223 (by decide) ?_
                exact ih_46 (j + 1) trx Mx Hx locsx ls (by omega) (by omega) (fj_no htr (fun x h9 => absurd h9.2.1 (by omega))) hI hm_42 hm_43 (fun j q0 q1 => hF_45 j q0 q1) (lv_sub hl [1, 2, 3, 4, 5, 0] rfl)
      exact lp69_41 ((sz q - 0) + 1) 0 tr M s.heap [] ls (Nat.lt_succ_self _) (by omega) (fun x => ⟨Or.inl, fun h9 => h9.elim id (fun ⟨k9, h8, _⟩ => absurd h8 (Nat.not_lt_zero k9))⟩) hI h82 h83 (fun j _ _ => rfl) (lv_sub hl [2, 3, 4, 5, 1, 0] rfl)
  · -- 7: nI p9 eq
    have c_1 : p9 = ap i := (nI_eq (a := p9) (b := ap i) (by omega) (by omega)).mp (c_1)
    omega
