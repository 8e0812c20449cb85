/-- a, b and c are an answer, as the matcher finds it -/
def an (dm sx : Nat → Int64) (ft : Nat → Nat) (nt : Nat → Bool) (aa a b c : Nat) : Bool := inS (dm 0) a && (inS (dm 1) b && (inS (dm 2) c && (List.range aa).all (fun i => rT sx i a b c (ft i) == !(nt i))))
def anP (dm sx : Nat → Int64) (ft : Nat → Nat) (nt : Nat → Bool) (aa k : Nat) : Bool := an dm sx ft nt aa (k / 1600) (k / 40 % 40) (k % 40)
section AN
variable {dm sx g g2 : Nat → Int64} {ft : Nat → Nat} {nt : Nat → Bool} {aa a b t : Nat} {y : Int64}
theorem anP_at (hb : b < 40) (ht : t < 40) : anP dm sx ft nt aa (a * 1600 + b * 40 + t) = an dm sx ft nt aa a b t := by
  rw [anP, show (a * 1600 + b * 40 + t) / 1600 = a by omega, show (a * 1600 + b * 40 + t) / 40 % 40 = b by omega, show (a * 1600 + b * 40 + t) % 40 = t by omega]
theorem hy_A (h0 : inS (dm 0) a = true) (h1 : inS (dm 1) b = true) (hd : ∀ t, inS (dm 2) t = true → t < 40) (hr : ∀ i, i < aa → rwR sx g i a (ft i)) (hy : ∀ t, inS y t = true ↔ inS (dm 2) t = true ∧ aw g nt b aa t) (hb : b < 40) : ∀ t, inS y t = (decide (t < 40) && anP dm sx ft nt aa (a * 1600 + b * 40 + t)) := fun t => by
  by_cases ht : t < 40
  · rw [anP_at hb ht, an, h0, h1, decide_eq_true ht, Bool.true_and, Bool.true_and, Bool.true_and]
    apply Bool.eq_iff_iff.mpr
    rw [hy t, Bool.and_eq_true, List.all_eq_true]
    refine and_congr Iff.rfl ⟨fun h i hi => ?_, fun h i hi => ?_⟩
    · rw [← hr i (List.mem_range.mp hi) b hb t, h i (List.mem_range.mp hi)]
      exact beq_self_eq_true _
    · rw [hr i hi b hb t]
      exact eq_of_beq (h i (List.mem_range.mpr hi))
  · rw [decide_eq_false ht, Bool.false_and]
    cases h : inS y t with
    | false => rfl
    | true => exact absurd (hd t ((hy t).mp h).1) ht
theorem hy_B (h1 : inS (dm 1) b = false) (hb : b < 40) : ∀ t, inS 0 t = (decide (t < 40) && anP dm sx ft nt aa (a * 1600 + b * 40 + t)) := fun t => by
  rw [inS_0]
  by_cases ht : t < 40
  · rw [anP_at hb ht, an, h1, Bool.false_and, Bool.and_false, Bool.and_false]
  · rw [decide_eq_false ht, Bool.false_and]
theorem cn_skip (h0 : inS (dm 0) a = false) : cntB (anP dm sx ft nt aa) ((a + 1) * 1600) = cntB (anP dm sx ft nt aa) (a * 1600) := by
  rw [show (a + 1) * 1600 = a * 1600 + 1600 by omega, cntB_split, cntB_0 (p := fun t => anP dm sx ft nt aa (a * 1600 + t)) (fun i hi => by
    show anP dm sx ft nt aa (a * 1600 + i) = false
    rw [anP, show (a * 1600 + i) / 1600 = a by omega, an, h0, Bool.false_and]), Nat.add_zero]
theorem cn_64 (hy : ∀ t, inS y t = (decide (t < 40) && anP dm sx ft nt aa (a * 1600 + b * 40 + t))) : cntB (inS y) 64 = cntB (inS y) 40 := cntB_cut (by decide) (fun i hi => by rw [hy i, decide_eq_false (by omega), Bool.false_and])
theorem cn_t (hy : ∀ t, inS y t = (decide (t < 40) && anP dm sx ft nt aa (a * 1600 + b * 40 + t))) {t : Nat} (ht : t ≤ 40) : cntB (anP dm sx ft nt aa) (a * 1600 + b * 40 + t) = cntB (anP dm sx ft nt aa) (a * 1600 + b * 40) + cntB (inS y) t := by
  rw [cntB_split]
  congr 1
  exact cntB_congr (fun i hi => by rw [hy i, decide_eq_true (by omega), Bool.true_and])
theorem rwR_0a {i n : Nat} (h : rwR sx g i 0 n) (hS : ∀ f, f < n → ∀ t, t < 40 → inS (sx ((i * 120 + f) * 3)) t = true) (ha : a < 40) : rwR sx g i a n := fun b hb t => by
  rw [h b hb t]
  clear h
  induction n with
  | zero => rfl
  | succ n ih => rw [rT, rT, ih (fun f hf => hS f (by omega)), hS n (by omega) 0 (by decide), hS n (by omega) a ha]
theorem rwR_cg {i n : Nat} (h : rwR sx g i a n) (he : ∀ j, j < 40 → g2 (i * 40 + j) = g (i * 40 + j)) : rwR sx g2 i a n := fun b hb t => by rw [he b hb]; exact h b hb t
end AN

theorem fnd {dm sx : Nat → Int64} {ft : Nat → Nat} {nt : Nat → Bool} {aa a b q pz : Nat} {y : Int64} {rc : Nat → Int32} {r : Int32} (hy : ∀ t, inS y t = (decide (t < 40) && anP dm sx ft nt aa (a * 1600 + b * 40 + t))) (hm : ∃ t, t < 40 ∧ r = nI t ∧ inS y t = true ∧ cntB (inS y) t = q - pz) (hp : pz = cntB (anP dm sx ft nt aa) (a * 1600 + b * 40)) (hle : pz ≤ q) (hab : a < 40 ∧ b < 40) : ∃ k, k < 64000 ∧ anP dm sx ft nt aa k = true ∧ cntB (anP dm sx ft nt aa) k = q ∧ upd (upd (upd rc 0 (nI a)) 1 (nI b)) 2 r 0 = nI (k / 1600) ∧ upd (upd (upd rc 0 (nI a)) 1 (nI b)) 2 r 1 = nI (k / 40 % 40) ∧ upd (upd (upd rc 0 (nI a)) 1 (nI b)) 2 r 2 = nI (k % 40) := by
  obtain ⟨t, ht, rfl, h1, h2⟩ := hm
  have hk := hy t
  rw [h1, decide_eq_true ht, Bool.true_and] at hk
  have hc := cn_t hy (t := t) (by omega)
  refine ⟨a * 1600 + b * 40 + t, by omega, hk.symm, by omega, ?_, ?_, ?_⟩
  · rw [show (a * 1600 + b * 40 + t) / 1600 = a by omega]; rfl
  · rw [show (a * 1600 + b * 40 + t) / 40 % 40 = b by omega]; rfl
  · rw [show (a * 1600 + b * 40 + t) % 40 = t by omega]; rfl

/-- X4_find -/
abbrev rm_c_X4_find : Room := { frames := 3, cells := 0, slots := 0, locals := 71 }
set_option maxHeartbeats 4000000 in
set_option maxRecDepth 100000 in
theorem c_X4_find (l : Launch) (G : GG) (z : Nat) (ad : Nat → Nat) (M : Mem) {qm : Nat} {pz : Nat} {aa : Nat} {uv : Nat} {av : Nat → Nat} {nt : Nat → Bool} {sx : Nat → Int64} {ft : Nat → Nat} {rx : Nat → Int64} {dm : Nat → Int64} {rc : Nat → Int32} {q : Nat} (h23 : M 23 = some (cMatcher ad qm pz)) (h24 : M 24 = some (aJ G 2160 sx)) (h25 : M 25 = some (aI G 6 (nF ft))) (h26 : M 26 = some (aJ G 240 rx)) (h27 : M 27 = some (aJ G 3 dm)) (h28 : M 28 = some (aI G 3 rc)) (hk : M qm = some (cQuestion ad qm aa uv)) (q2 : M (qm + 2) = some (aZ G 6 (bF nt))) (q4 : M (qm + 4) = some (aI G 6 (nF av))) (hqm : 29 < qm ∧ qm < 51) (haa : aa ≤ 6) (hav : ∀ i, i < aa → av i < 8) (hft : ∀ i, i < aa → ft i ≤ 120) (hd2 : ∀ t, inS (dm 2) t = true → t < 40) (hS0 : ∀ i, i < aa → (av i).testBit 0 = false → ∀ f, f < ft i → ∀ t, t < 40 → inS (sx ((i * 120 + f) * 3)) t = true) (hq : q < 2 ^ 31) : Met l yX4_find wsX4_find rm_c_X4_find (Pr G z ad M [.ref (ad 23), .int (nI q)]) (Ni G z ad (fun (r : Int32) (M' : Mem) => ∃ b2 : Bool, ∃ p2 : Nat, ∃ r2 : Nat → Int64, ∃ rc2 : Nat → Int32, M' 23 = some (cMatcher ad qm p2) ∧ M' 26 = some (aJ G 240 r2) ∧ M' 28 = some (aI G 3 rc2) ∧ (∀ j : Nat, j ≠ 23 → j ≠ 26 → j ≠ 28 → M' j = M j) ∧ (r = bI b2 ∧ (b2 = false ∧ p2 = cntB (anP dm sx ft nt aa) 64000 ∧ p2 ≤ q ∨ b2 = true ∧ ∃ k, k < 64000 ∧ (anP dm sx ft nt aa) k = true ∧ cntB (anP dm sx ft nt aa) k = q ∧ rc2 0 = nI (k / 1600) ∧ rc2 1 = nI (k / 40 % 40) ∧ rc2 2 = nI (k % 40))))) 0 0 (fr z) := by
  refine Met.ofW (cc := cX4_find) (maxL := 7) (ret := (some .boolean)) (by decide) rfl ?_
  intro p e s m args below meth c s₁ B hml hv
  obtain ⟨rfl, hv⟩ := hv
  have hI := Iv.entry hv
  have hx := B.exec
  have hb := B.bytes
  have hr := B.returns
  have hts := atoms_spec (ws := wsX4_find) B.pre
  have hown : s.vm.findClass RX4 = some m.cls := findClass_of_methodNamed B.named
  have hlocks := B.notSynchronized
  have f_77 := hts _ (List.mem_cons_of_mem _ (lwg_of t_221 rfl))
  have i_RX4 : ∀ w ∈ u_ws RX4 TX4 7, w ∈ wsX4_find := fun w h => List.mem_cons_of_mem _ (iu_X4 w h)
  have f_22 := hts _ (List.mem_cons_of_mem _ (lwg_of t_218 rfl))
  have st_84 := hts _ (List.mem_cons_of_mem _ (lwg_of t_419 rfl))
  have si_84 := hts _ (List.mem_cons_of_mem _ (lwg_of t_1 rfl))
  have f_25 := hts _ (List.mem_cons_of_mem _ (lwg_of t_219 rfl))
  have hl := lv_entry ([.ref (ad 23), .int (nI q)]) (n := 7) (Nat.le_of_ble_eq_true rfl)
  rw [lg_entry_eq]
  generalize (lg_sl ([.ref (ad 23), .int (nI q)]) ++ List.replicate (7 - (lg_sl ([.ref (ad 23), .int (nI q)])).length) Slot.unset).toArray = ls at hl ⊢
  have hl : lv_has ls 7 [(0, .ref (ad 23)), (1, .int (nI q))] := hl
  refine w_q (fun Q hQ => ?_)
  refine lv_aload_n hx hb dX4_find_0 rfl (lv_at hl 0 rfl) ?_
  refine lv_iconst (v := nI 0) hx hb dX4_find_1 (by decide) ?_
  refine h_put (C := RX4) (T := TX4) (N := 7) hx hb hts i_RX4 tyX4 tyX4_ok nmX4 hown hI h23 rfl 6 (by decide) f_77 rfl rfl rfl rfl (Nat.le_of_ble_eq_true rfl) dX4_find_2 (fun M_1 H_2 locs_3 eM_4 hI => ?_)
  have hm_5 : M_1 23 = some (cMatcher ad qm 0) := by rw [eM_4]; exact va_up_self _ _ _
  have hm_6 : M_1 24 = some (aJ G 2160 sx) := by rw [eM_4, va_up_ne _ _ (by decide)]; exact h24
  have hm_7 : M_1 25 = some (aI G 6 (nF ft)) := by rw [eM_4, va_up_ne _ _ (by decide)]; exact h25
  have hm_8 : M_1 26 = some (aJ G 240 rx) := by rw [eM_4, va_up_ne _ _ (by decide)]; exact h26
  have hm_9 : M_1 27 = some (aJ G 3 dm) := by rw [eM_4, va_up_ne _ _ (by decide)]; exact h27
  have hm_10 : M_1 28 = some (aI G 3 rc) := by rw [eM_4, va_up_ne _ _ (by decide)]; exact h28
  have hm_11 : M_1 qm = some (cQuestion ad qm aa uv) := by rw [eM_4, va_up_ne _ _ (by omega)]; exact hk
  have hm_12 : M_1 (qm + 2) = some (aZ G 6 (bF nt)) := by rw [eM_4, va_up_ne _ _ (by omega)]; exact q2
  have hm_13 : M_1 (qm + 4) = some (aI G 6 (nF av)) := by rw [eM_4, va_up_ne _ _ (by omega)]; exact q4
  have hF_14 : ∀ j : Nat, j ≠ 23 → M_1 j = M j := fun j q0 => by rw [eM_4, va_up_ne _ _ q0]
  refine lv_aload_n hx hb dX4_find_5 rfl (lv_at hl 0 rfl) ?_
  refine lv_iconst (v := nI 0) hx hb dX4_find_6 (by decide) ?_
  refine lv_iconst (v := nI 0) hx hb dX4_find_7 (by decide) ?_
  refine n_eq (show _ = bI false from rfl) ?_
  refine k_Nv (va_runV (As := [.int (nI 0), .int (bI false)]) (rest := []) ⟨hx, hb, hml, hown, hts⟩ (c_X4_fillRows l G z ad M_1 (qm := qm) (pz := 0) (aa := aa) (uv := uv) (av := av) (sx := sx) (ft := ft) (rx := rx) (a := 0) (b := false) hm_5 hm_6 hm_7 hm_8 hm_11 hm_13 (by omega) (by omega) (by omega) hav hft) (cwV 2 hts (gV (lwg_of t_406 rfl) (lwg_of t_408 rfl) (lwg_of ts_3 rfl) (lwg_of t_11 rfl) (lwg_of t_409 rfl)) rfl rfl rfl (by decide +kernel) ⟨Nat.le_of_ble_eq_true rfl, Nat.le_of_ble_eq_true rfl⟩) (hI.preV hm_5 rfl) rfl rfl hl.1 rfl (lv_room (Nat.le_of_ble_eq_true rfl)) dX4_find_8 ⟨Nat.le_of_ble_eq_true rfl, Nat.le_of_ble_eq_true rfl⟩) hI (fun M_17 H_18 locs_19 hp_16 hI => ?_)
  obtain ⟨r2_23, hm_20, hF_21, hP_22⟩ := hp_16
  have hm_24 : M_17 23 = some (cMatcher ad qm 0) := by rw [hF_21 23 (by omega)]; exact hm_5
  have hm_25 : M_17 24 = some (aJ G 2160 sx) := by rw [hF_21 24 (by omega)]; exact hm_6
  have hm_26 : M_17 25 = some (aI G 6 (nF ft)) := by rw [hF_21 25 (by omega)]; exact hm_7
  have hm_27 : M_17 27 = some (aJ G 3 dm) := by rw [hF_21 27 (by omega)]; exact hm_9
  have hm_28 : M_17 28 = some (aI G 3 rc) := by rw [hF_21 28 (by omega)]; exact hm_10
  have hm_29 : M_17 qm = some (cQuestion ad qm aa uv) := by rw [hF_21 qm (by omega)]; exact hm_11
  have hm_30 : M_17 (qm + 2) = some (aZ G 6 (bF nt)) := by rw [hF_21 (qm + 2) (by omega)]; exact hm_12
  have hm_31 : M_17 (qm + 4) = some (aI G 6 (nF av)) := by rw [hF_21 (qm + 4) (by omega)]; exact hm_13
  have hF_32 : ∀ j : Nat, j ≠ 23 → j ≠ 26 → M_17 j = M j := fun j q0 q1 => (hF_21 j q1).trans (hF_14 j q0)
  refine lv_iconst (v := nI 0) hx hb dX4_find_11 (by decide) ?_
  refine lv_istore_n (lv' := [(2, .int (nI 0)), (0, .ref (ad 23)), (1, .int (nI q))]) hx hb dX4_find_12 rfl hl (by decide) rfl (fun ls hl => ?_)
  have lp13_33 : ∀ (fuel : Nat) (a : Nat) (pz2 : Nat) (g : Nat → Int64) (Mx : Mem) (Hx : Heap) (locsx : List Loc) (ls : Array Slot), (40 - a) < fuel → (a ≤ 40) → (pz2 = cntB (anP dm sx ft nt aa) (a * 1600)) → (pz2 ≤ q) → (∀ i, i < aa → (av i).testBit 0 = false → rwR sx g i 0 (ft i)) → Iv G z ad Mx s Hx locsx → Mx 23 = some (cMatcher ad qm pz2) → Mx 26 = some (aJ G 240 g) → (∀ j : Nat, j ≠ 23 → j ≠ 26 → Mx j = M j) → lv_has ls 7 [(0, .ref (ad 23)), (1, .int (nI q)), (2, .int (nI a))] → W p l e (headSpec wsX4_find rm_c_X4_find).room s m ([.ref (ad 23), .int (nI q)] : List Value).toArray below meth c Hx locsx 0 0 Q (F0 m 13 ls []) := by
    intro fuel
    induction fuel with
    | zero => intro a pz2 g Mx Hx locsx ls hfu ha hp2 hle hrow hI hm_34 hm_35 hF_37 hl; exact absurd hfu (Nat.not_lt_zero _)
    | succ fuel ih_38 =>
      intro a pz2 g Mx Hx locsx ls hfu ha hp2 hle hrow hI hm_34 hm_35 hF_37 hl
      have hm_39 : Mx 24 = some (aJ G 2160 sx) := by rw [hF_37 24 (by omega) (by omega)]; exact h24
      have hm_40 : Mx 25 = some (aI G 6 (nF ft)) := by rw [hF_37 25 (by omega) (by omega)]; exact h25
      have hm_41 : Mx 27 = some (aJ G 3 dm) := by rw [hF_37 27 (by omega) (by omega)]; exact h27
      have hm_42 : Mx 28 = some (aI G 3 rc) := by rw [hF_37 28 (by omega) (by omega)]; exact h28
      have hm_43 : Mx qm = some (cQuestion ad qm aa uv) := by rw [hF_37 qm (by omega) (by omega)]; exact hk
      have hm_44 : Mx (qm + 2) = some (aZ G 6 (bF nt)) := by rw [hF_37 (qm + 2) (by omega) (by omega)]; exact q2
      have hm_45 : Mx (qm + 4) = some (aI G 6 (nF av)) := by rw [hF_37 (qm + 4) (by omega) (by omega)]; exact q4
      refine lv_iload_n hx hb dX4_find_13 rfl (lv_at hl 2 rfl) ?_
      refine lv_bipush (v := nI 40) hx hb dX4_find_14 (by decide) ?_
      refine lv_icmp_ge (tgt := 147) hx hb dX4_find_16 (by decide) (fun c_46 => ?_) (fun c_46 => ?_)
      · -- 16: nI a ge
        have c_46 : 40 ≤ a := (nI_leI (a := 40) (b := a) (by omega) (by omega)).mp (c_46)
        refine lv_iconst (v := nI 0) hx hb dX4_find_147 (by decide) ?_
        subst hQ
        exact e_Ni hx hb hr rfl hlocks hI ⟨false, pz2, g, rc, hm_34, hm_35, hm_42, (fun j q0 q1 q2 => hF_37 j q0 q1), ⟨rfl, Or.inl ⟨rfl, (by rw [show (64000 : Nat) = a * 1600 by omega]; exact hp2), hle⟩⟩⟩ dX4_find_148
      · -- 16: nI a lt
        have c_46 : a < 40 := by have h := mt (nI_leI (a := 40) (b := a) (by omega) (by omega)).mpr c_46; omega
        refine lv_aload_n hx hb dX4_find_19 rfl (lv_at hl 0 rfl) ?_
        refine h_get (C := RX4) (T := TX4) (N := 7) hx hb hts i_RX4 hown hI hm_34 rfl 3 (by decide) f_22 rfl rfl dX4_find_20 ?_
        refine lv_iconst (v := nI 0) hx hb dX4_find_23 (by decide) ?_
        refine h_lald (i := 0) hx hb hI hm_41 (by omega) (by decide) dX4_find_24 ?_
        refine lv_iload_n hx hb dX4_find_25 rfl (lv_at hl 2 rfl) ?_
        refine k_Ri (va_runSN (As := [.long (dm 0), .int (nI a)]) (rest := []) ⟨hx, hb, hml, hown, hts⟩ (c_X9_isIn l G z ad Mx (x := dm 0) (t := a) (by omega)) ⟨va_cnB 2 hts (gU (lwg_of t_420 rfl)) rfl rfl rfl (nwm_at (i := 8) (q := ("LineStore$Matcher", 84, ⟨"LineStore", "isIn", "(JI)Z"⟩, "LineStore")) hI rfl) si_84 (by decide +kernel) ⟨Nat.le_of_ble_eq_true rfl, Nat.le_of_ble_eq_true rfl⟩, st_84, trivial⟩ hI.preS rfl rfl hl.1 rfl (lv_room (Nat.le_of_ble_eq_true rfl)) dX4_find_26 ⟨Nat.le_of_ble_eq_true rfl, Nat.le_of_ble_eq_true rfl⟩) (fun _ h => h) (fun r_47 hp_48 => ?_)
        rw [hp_48]
        refine lv_if_ne (tgt := 35) hx hb dX4_find_29 (by decide) (fun c_49 => ?_) (fun c_49 => ?_)
        · -- 29: bI (inS (dm 0) a) ne
          have c_49 : inS (dm 0) a = true := bI_t (c_49)
          refine lv_aload_n hx hb dX4_find_35 rfl (lv_at hl 0 rfl) ?_
          refine lv_iload_n hx hb dX4_find_36 rfl (lv_at hl 2 rfl) ?_
          refine lv_iconst (v := nI 1) hx hb dX4_find_37 (by decide) ?_
          refine n_eq (show _ = bI true from rfl) ?_
          refine k_Nv (va_runV (As := [.int (nI a), .int (bI true)]) (rest := []) ⟨hx, hb, hml, hown, hts⟩ (c_X4_fillRows l G z ad Mx (qm := qm) (pz := pz2) (aa := aa) (uv := uv) (av := av) (sx := sx) (ft := ft) (rx := g) (a := a) (b := true) hm_34 hm_39 hm_40 hm_35 hm_43 hm_45 (by omega) (by omega) (by omega) hav hft) (cwV 2 hts (gV (lwg_of t_406 rfl) (lwg_of t_408 rfl) (lwg_of ts_3 rfl) (lwg_of t_11 rfl) (lwg_of t_409 rfl)) rfl rfl rfl (by decide +kernel) ⟨Nat.le_of_ble_eq_true rfl, Nat.le_of_ble_eq_true rfl⟩) (hI.preV hm_34 rfl) rfl rfl hl.1 rfl (lv_room (Nat.le_of_ble_eq_true rfl)) dX4_find_38 ⟨Nat.le_of_ble_eq_true rfl, Nat.le_of_ble_eq_true rfl⟩) hI (fun M_52 H_53 locs_54 hp_51 hI => ?_)
          obtain ⟨r2_58, hm_55, hF_56, hP_57⟩ := hp_51
          have hm_59 : M_52 24 = some (aJ G 2160 sx) := by rw [hF_56 24 (by omega)]; exact hm_39
          have hm_60 : M_52 25 = some (aI G 6 (nF ft)) := by rw [hF_56 25 (by omega)]; exact hm_40
          have hm_61 : M_52 27 = some (aJ G 3 dm) := by rw [hF_56 27 (by omega)]; exact hm_41
          have hm_62 : M_52 28 = some (aI G 3 rc) := by rw [hF_56 28 (by omega)]; exact hm_42
          have hm_63 : M_52 qm = some (cQuestion ad qm aa uv) := by rw [hF_56 qm (by omega)]; exact hm_43
          have hm_64 : M_52 (qm + 2) = some (aZ G 6 (bF nt)) := by rw [hF_56 (qm + 2) (by omega)]; exact hm_44
          have hm_65 : M_52 (qm + 4) = some (aI G 6 (nF av)) := by rw [hF_56 (qm + 4) (by omega)]; exact hm_45
          have hm_66 : M_52 23 = some (cMatcher ad qm pz2) := by rw [hF_56 23 (by omega)]; exact hm_34
          have hF_67 : ∀ j : Nat, j ≠ 23 → j ≠ 26 → M_52 j = M j := fun j q0 q1 => (hF_56 j q1).trans (hF_37 j q0 q1)
          have hrow2 : ∀ i, i < aa → (av i).testBit 0 = false → rwR sx r2_58 i 0 (ft i) := fun i9 h9 h8 => rwR_cg (hrow i9 h9 h8) ((hP_57 i9 h9).2 (by rw [h8]; decide))
          have hrows : ∀ i, i < aa → rwR sx r2_58 i a (ft i) := fun i9 h9 => by
            cases h8 : (av i9).testBit 0 with
            | true => exact (hP_57 i9 h9).1 h8
            | false => exact rwR_0a (hrow2 i9 h9 h8) (hS0 i9 h9 h8) (by omega)
          refine lv_iconst (v := nI 0) hx hb dX4_find_41 (by decide) ?_
          refine lv_istore_n (lv' := [(3, .int (nI 0)), (0, .ref (ad 23)), (1, .int (nI q)), (2, .int (nI a))]) hx hb dX4_find_42 rfl hl (by decide) rfl (fun ls hl => ?_)
          have lp43_68 : ∀ (fuel : Nat) (b : Nat) (pz3 : Nat) (Mx : Mem) (Hx : Heap) (locsx : List Loc) (ls : Array Slot), (40 - b) < fuel → (b ≤ 40) → (pz3 = cntB (anP dm sx ft nt aa) (a * 1600 + b * 40)) → (pz3 ≤ q) → Iv G z ad Mx s Hx locsx → Mx 23 = some (cMatcher ad qm pz3) → Mx 26 = some (aJ G 240 r2_58) → (∀ j : Nat, j ≠ 23 → j ≠ 26 → Mx j = M j) → lv_has ls 7 [(0, .ref (ad 23)), (1, .int (nI q)), (2, .int (nI a)), (3, .int (nI b))] → W p l e (headSpec wsX4_find rm_c_X4_find).room s m ([.ref (ad 23), .int (nI q)] : List Value).toArray below meth c Hx locsx 0 0 Q (F0 m 43 ls []) := by
            intro fuel
            induction fuel with
            | zero => intro b pz3 Mx Hx locsx ls hfu hbj hp3 hle3 hI hm_69 hm_70 hF_72 hl; exact absurd hfu (Nat.not_lt_zero _)
            | succ fuel ih_73 =>
              intro b pz3 Mx Hx locsx ls hfu hbj hp3 hle3 hI hm_69 hm_70 hF_72 hl
              have hm_74 : Mx 24 = some (aJ G 2160 sx) := by rw [hF_72 24 (by omega) (by omega)]; exact h24
              have hm_75 : Mx 25 = some (aI G 6 (nF ft)) := by rw [hF_72 25 (by omega) (by omega)]; exact h25
              have hm_76 : Mx 27 = some (aJ G 3 dm) := by rw [hF_72 27 (by omega) (by omega)]; exact h27
              have hm_77 : Mx 28 = some (aI G 3 rc) := by rw [hF_72 28 (by omega) (by omega)]; exact h28
              have hm_78 : Mx qm = some (cQuestion ad qm aa uv) := by rw [hF_72 qm (by omega) (by omega)]; exact hk
              have hm_79 : Mx (qm + 2) = some (aZ G 6 (bF nt)) := by rw [hF_72 (qm + 2) (by omega) (by omega)]; exact q2
              have hm_80 : Mx (qm + 4) = some (aI G 6 (nF av)) := by rw [hF_72 (qm + 4) (by omega) (by omega)]; exact q4
              refine lv_iload_n hx hb dX4_find_43 rfl (lv_at hl 3 rfl) ?_
              refine lv_bipush (v := nI 40) hx hb dX4_find_44 (by decide) ?_
              refine lv_icmp_ge (tgt := 141) hx hb dX4_find_46 (by decide) (fun c_81 => ?_) (fun c_81 => ?_)
              · -- 46: nI b ge
                have c_81 : 40 ≤ b := (nI_leI (a := 40) (b := b) (by omega) (by omega)).mp (c_81)
                refine lv_iinc (v := nI (a + 1)) (lv' := [(2, .int (nI (a + 1))), (0, .ref (ad 23)), (1, .int (nI q)), (3, .int (nI b))]) hx hb dX4_find_141 hl (k := 2) rfl (nI_add a 1) (by decide) rfl (fun ls hl => ?_)
                refine lv_goto (tgt := 13) hx hb dX4_find_144 (by decide) ?_
                exact ih_38 (a + 1) pz3 r2_58 Mx Hx locsx ls (by omega) (by omega) (by rw [hp3, show a * 1600 + b * 40 = (a + 1) * 1600 by omega]) (by omega) (hrow2) hI hm_69 hm_70 (fun j q0 q1 => hF_72 j q0 q1) (lv_sub hl [1, 2, 0] rfl)
              · -- 46: nI b lt
                have c_81 : b < 40 := by have h := mt (nI_leI (a := 40) (b := b) (by omega) (by omega)).mpr c_81; omega
                refine lv_aload_n hx hb dX4_find_49 rfl (lv_at hl 0 rfl) ?_
                refine h_get (C := RX4) (T := TX4) (N := 7) hx hb hts i_RX4 hown hI hm_69 rfl 3 (by decide) f_22 rfl rfl dX4_find_50 ?_
                refine lv_iconst (v := nI 1) hx hb dX4_find_53 (by decide) ?_
                refine h_lald (i := 1) hx hb hI hm_76 (by omega) (by decide) dX4_find_54 ?_
                refine lv_iload_n hx hb dX4_find_55 rfl (lv_at hl 3 rfl) ?_
                refine k_Ri (va_runSN (As := [.long (dm 1), .int (nI b)]) (rest := []) ⟨hx, hb, hml, hown, hts⟩ (c_X9_isIn l G z ad Mx (x := dm 1) (t := b) (by omega)) ⟨va_cnB 2 hts (gU (lwg_of t_420 rfl)) rfl rfl rfl (nwm_at (i := 8) (q := ("LineStore$Matcher", 84, ⟨"LineStore", "isIn", "(JI)Z"⟩, "LineStore")) hI rfl) si_84 (by decide +kernel) ⟨Nat.le_of_ble_eq_true rfl, Nat.le_of_ble_eq_true rfl⟩, st_84, trivial⟩ hI.preS rfl rfl hl.1 rfl (lv_room (Nat.le_of_ble_eq_true rfl)) dX4_find_56 ⟨Nat.le_of_ble_eq_true rfl, Nat.le_of_ble_eq_true rfl⟩) (fun _ h => h) (fun r_82 hp_83 => ?_)
                rw [hp_83]
                refine lv_if_eq (tgt := 70) hx hb dX4_find_59 (by decide) (fun c_84 => ?_) (fun c_84 => ?_)
                · -- 59: bI (inS (dm 1) b) eq
                  have c_84 : inS (dm 1) b = false := bI_f (c_84)
                  refine lv_lconst (v := 0) hx hb dX4_find_70 (by decide) ?_
                  refine lv_lstore (lv' := [(4, .long (0 : Int64)), (0, .ref (ad 23)), (1, .int (nI q)), (2, .int (nI a)), (3, .int (nI b))]) hx hb dX4_find_71 hl (by decide) rfl (fun ls hl => ?_)
                  have hy : ∀ t, inS (0 : Int64) t = (decide (t < 40) && (anP dm sx ft nt aa) (a * 1600 + b * 40 + t)) := hy_B (by assumption) (by omega)
                  have hle4 := cntB_le (inS (0 : Int64)) 40
                  have hc64 := cn_64 hy
                  have hct := cn_t hy (t := 40) (Nat.le_refl 40)
                  refine lv_lload hx hb dX4_find_73 (lv_at hl 0 rfl) ?_
                  refine k_Ri (va_runS (As := [.long (0 : Int64)]) (rest := []) ⟨hx, hb, hml, hown, hts⟩ (c_J13_bitCount_95d88 l G z ad Mx (x := (0 : Int64)) ) (va_cwS 1 hts (gS (lwg_of t_426 rfl) (lwg_of t_427 rfl) (lwg_of t_31 rfl) (lwg_of t_428 rfl)) rfl rfl rfl (by decide +kernel) ⟨Nat.le_of_ble_eq_true rfl, Nat.le_of_ble_eq_true rfl⟩) hI.preS rfl rfl hl.1 rfl (lv_room (Nat.le_of_ble_eq_true rfl)) dX4_find_75 ⟨Nat.le_of_ble_eq_true rfl, Nat.le_of_ble_eq_true rfl⟩) (fun _ h => h) (fun r_85 hp_86 => ?_)
                  rw [hp_86]
                  refine n_eq (show _ = nI (cntB (inS (0 : Int64)) 40) from by rw [hc64]) ?_
                  refine lv_istore (lv' := [(6, .int (nI (cntB (inS (0 : Int64)) 40))), (4, .long (0 : Int64)), (0, .ref (ad 23)), (1, .int (nI q)), (2, .int (nI a)), (3, .int (nI b))]) hx hb dX4_find_78 hl (by decide) rfl (fun ls hl => ?_)
                  refine lv_iload_n hx hb dX4_find_80 rfl (lv_at hl 3 rfl) ?_
                  refine lv_aload_n hx hb dX4_find_81 rfl (lv_at hl 2 rfl) ?_
                  refine h_get (C := RX4) (T := TX4) (N := 7) hx hb hts i_RX4 hown hI hm_69 rfl 6 (by decide) f_77 rfl rfl dX4_find_82 ?_
                  refine lv_isub hx hb dX4_find_85 ?_
                  refine n_eq (pk_sub (a := q) (b := pz3) (by omega)) ?_
                  refine lv_iload hx hb dX4_find_86 (lv_at hl 0 rfl) ?_
                  refine lv_icmp_ge (tgt := 124) hx hb dX4_find_88 (by decide) (fun c_87 => ?_) (fun c_87 => ?_)
                  · -- 88: nI (q - pz3) ge
                    have c_87 : cntB (inS (0 : Int64)) 40 ≤ q - pz3 := (nI_leI (a := cntB (inS (0 : Int64)) 40) (b := q - pz3) (by omega) (by omega)).mp (c_87)
                    refine lv_aload_n hx hb dX4_find_124 rfl (lv_at hl 2 rfl) ?_
                    refine lv_dup hx hb dX4_find_125 rfl ?_
                    refine h_get (C := RX4) (T := TX4) (N := 7) hx hb hts i_RX4 hown hI hm_69 rfl 6 (by decide) f_77 rfl rfl dX4_find_126 ?_
                    refine lv_iload hx hb dX4_find_129 (lv_at hl 0 rfl) ?_
                    refine lv_iadd hx hb dX4_find_131 ?_
                    refine n_eq (nI_add pz3 (cntB (inS (0 : Int64)) 40)) ?_
                    refine h_put (C := RX4) (T := TX4) (N := 7) hx hb hts i_RX4 tyX4 tyX4_ok nmX4 hown hI hm_69 rfl 6 (by decide) f_77 rfl rfl rfl rfl (Nat.le_of_ble_eq_true rfl) dX4_find_132 (fun M_88 H_89 locs_90 eM_91 hI => ?_)
                    have hm_92 : M_88 24 = some (aJ G 2160 sx) := by rw [eM_91, va_up_ne _ _ (by decide)]; exact hm_74
                    have hm_93 : M_88 25 = some (aI G 6 (nF ft)) := by rw [eM_91, va_up_ne _ _ (by decide)]; exact hm_75
                    have hm_94 : M_88 27 = some (aJ G 3 dm) := by rw [eM_91, va_up_ne _ _ (by decide)]; exact hm_76
                    have hm_95 : M_88 28 = some (aI G 3 rc) := by rw [eM_91, va_up_ne _ _ (by decide)]; exact hm_77
                    have hm_96 : M_88 qm = some (cQuestion ad qm aa uv) := by rw [eM_91, va_up_ne _ _ (by omega)]; exact hm_78
                    have hm_97 : M_88 (qm + 2) = some (aZ G 6 (bF nt)) := by rw [eM_91, va_up_ne _ _ (by omega)]; exact hm_79
                    have hm_98 : M_88 (qm + 4) = some (aI G 6 (nF av)) := by rw [eM_91, va_up_ne _ _ (by omega)]; exact hm_80
                    have hm_99 : M_88 23 = some (cMatcher ad qm (pz3 + (cntB (inS (0 : Int64)) 40))) := by rw [eM_91]; exact va_up_self _ _ _
                    have hm_100 : M_88 26 = some (aJ G 240 r2_58) := by rw [eM_91, va_up_ne _ _ (by decide)]; exact hm_70
                    have hF_101 : ∀ j : Nat, j ≠ 23 → j ≠ 26 → M_88 j = M j := fun j q0 q1 => by rw [eM_91, va_up_ne _ _ q0]; exact hF_72 j q0 q1
                    refine lv_iinc (v := nI (b + 1)) (lv' := [(3, .int (nI (b + 1))), (6, .int (nI (cntB (inS (0 : Int64)) 40))), (4, .long (0 : Int64)), (0, .ref (ad 23)), (1, .int (nI q)), (2, .int (nI a))]) hx hb dX4_find_135 hl (k := 5) rfl (nI_add b 1) (by decide) rfl (fun ls hl => ?_)
                    refine lv_goto (tgt := 43) hx hb dX4_find_138 (by decide) ?_
                    exact ih_73 (b + 1) (pz3 + (cntB (inS (0 : Int64)) 40)) M_88 H_89 locs_90 ls (by omega) (by omega) (by rw [show a * 1600 + (b + 1) * 40 = a * 1600 + b * 40 + 40 by omega, hct, ← hp3]) (by omega) hI hm_99 hm_100 (fun j q0 q1 => hF_101 j q0 q1) (lv_sub hl [3, 4, 5, 0] rfl)
                  · -- 88: nI (q - pz3) lt
                    have c_87 : q - pz3 < cntB (inS (0 : Int64)) 40 := by have h := mt (nI_leI (a := cntB (inS (0 : Int64)) 40) (b := q - pz3) (by omega) (by omega)).mpr c_87; omega
                    refine lv_aload_n hx hb dX4_find_91 rfl (lv_at hl 2 rfl) ?_
                    refine h_get (C := RX4) (T := TX4) (N := 7) hx hb hts i_RX4 hown hI hm_69 rfl 4 (by decide) f_25 rfl rfl dX4_find_92 ?_
                    refine lv_iconst (v := nI 0) hx hb dX4_find_95 (by decide) ?_
                    refine lv_iload_n hx hb dX4_find_96 rfl (lv_at hl 4 rfl) ?_
                    refine h_iast (i := 0) (x := nI a) hx hb hI hm_77 (by omega) (by decide) dX4_find_97 (fun M_102 H_103 locs_104 eM_105 hI => ?_)
                    have hm_106 : M_102 24 = some (aJ G 2160 sx) := by rw [eM_105, va_up_ne _ _ (by decide)]; exact hm_74
                    have hm_107 : M_102 25 = some (aI G 6 (nF ft)) := by rw [eM_105, va_up_ne _ _ (by decide)]; exact hm_75
                    have hm_108 : M_102 27 = some (aJ G 3 dm) := by rw [eM_105, va_up_ne _ _ (by decide)]; exact hm_76
                    have hm_109 : M_102 28 = some (aI G 3 (upd rc 0 (nI a))) := by rw [eM_105]; exact va_up_self _ _ _
                    have hm_110 : M_102 qm = some (cQuestion ad qm aa uv) := by rw [eM_105, va_up_ne _ _ (by omega)]; exact hm_78
                    have hm_111 : M_102 (qm + 2) = some (aZ G 6 (bF nt)) := by rw [eM_105, va_up_ne _ _ (by omega)]; exact hm_79
                    have hm_112 : M_102 (qm + 4) = some (aI G 6 (nF av)) := by rw [eM_105, va_up_ne _ _ (by omega)]; exact hm_80
                    have hm_113 : M_102 23 = some (cMatcher ad qm pz3) := by rw [eM_105, va_up_ne _ _ (by decide)]; exact hm_69
                    have hm_114 : M_102 26 = some (aJ G 240 r2_58) := by rw [eM_105, va_up_ne _ _ (by decide)]; exact hm_70
                    have hF_115 : ∀ j : Nat, j ≠ 23 → j ≠ 26 → j ≠ 28 → M_102 j = M j := fun j q0 q1 q2 => by rw [eM_105, va_up_ne _ _ q2]; exact hF_72 j q0 q1
                    refine lv_aload_n hx hb dX4_find_98 rfl (lv_at hl 2 rfl) ?_
                    refine h_get (C := RX4) (T := TX4) (N := 7) hx hb hts i_RX4 hown hI hm_113 rfl 4 (by decide) f_25 rfl rfl dX4_find_99 ?_
                    refine lv_iconst (v := nI 1) hx hb dX4_find_102 (by decide) ?_
                    refine lv_iload_n hx hb dX4_find_103 rfl (lv_at hl 5 rfl) ?_
                    refine h_iast (i := 1) (x := nI b) hx hb hI hm_109 (by omega) (by decide) dX4_find_104 (fun M_116 H_117 locs_118 eM_119 hI => ?_)
                    have hm_120 : M_116 24 = some (aJ G 2160 sx) := by rw [eM_119, va_up_ne _ _ (by decide)]; exact hm_106
                    have hm_121 : M_116 25 = some (aI G 6 (nF ft)) := by rw [eM_119, va_up_ne _ _ (by decide)]; exact hm_107
                    have hm_122 : M_116 27 = some (aJ G 3 dm) := by rw [eM_119, va_up_ne _ _ (by decide)]; exact hm_108
                    have hm_123 : M_116 28 = some (aI G 3 (upd (upd rc 0 (nI a)) 1 (nI b))) := by rw [eM_119]; exact va_up_self _ _ _
                    have hm_124 : M_116 qm = some (cQuestion ad qm aa uv) := by rw [eM_119, va_up_ne _ _ (by omega)]; exact hm_110
                    have hm_125 : M_116 (qm + 2) = some (aZ G 6 (bF nt)) := by rw [eM_119, va_up_ne _ _ (by omega)]; exact hm_111
                    have hm_126 : M_116 (qm + 4) = some (aI G 6 (nF av)) := by rw [eM_119, va_up_ne _ _ (by omega)]; exact hm_112
                    have hm_127 : M_116 23 = some (cMatcher ad qm pz3) := by rw [eM_119, va_up_ne _ _ (by decide)]; exact hm_113
                    have hm_128 : M_116 26 = some (aJ G 240 r2_58) := by rw [eM_119, va_up_ne _ _ (by decide)]; exact hm_114
                    have hF_129 : ∀ j : Nat, j ≠ 23 → j ≠ 26 → j ≠ 28 → M_116 j = M j := fun j q0 q1 q2 => by rw [eM_119, va_up_ne _ _ q2]; exact hF_115 j q0 q1 q2
                    refine lv_aload_n hx hb dX4_find_105 rfl (lv_at hl 2 rfl) ?_
                    refine h_get (C := RX4) (T := TX4) (N := 7) hx hb hts i_RX4 hown hI hm_127 rfl 4 (by decide) f_25 rfl rfl dX4_find_106 ?_
                    refine lv_iconst (v := nI 2) hx hb dX4_find_109 (by decide) ?_
                    refine lv_lload hx hb dX4_find_110 (lv_at hl 1 rfl) ?_
                    refine lv_iload_n hx hb dX4_find_112 rfl (lv_at hl 3 rfl) ?_
                    refine lv_aload_n hx hb dX4_find_113 rfl (lv_at hl 2 rfl) ?_
                    refine h_get (C := RX4) (T := TX4) (N := 7) hx hb hts i_RX4 hown hI hm_127 rfl 6 (by decide) f_77 rfl rfl dX4_find_114 ?_
                    refine lv_isub hx hb dX4_find_117 ?_
                    refine n_eq (pk_sub (a := q) (b := pz3) (by omega)) ?_
                    refine k_Ri (va_runS (As := [.long (0 : Int64), .int (nI (q - pz3))]) (rest := [.int (nI 2), .ref (ad 28)]) ⟨hx, hb, hml, hown, hts⟩ (c_X4_member l G z ad M_116 (x := (0 : Int64)) (q := q - pz3) (by omega)) (va_cwS 2 hts (gS (lwg_of t_432 rfl) (lwg_of t_433 rfl) (lwg_of t_11 rfl) (lwg_of t_434 rfl)) rfl rfl rfl (by decide +kernel) ⟨Nat.le_of_ble_eq_true rfl, Nat.le_of_ble_eq_true rfl⟩) hI.preS rfl rfl hl.1 rfl (lv_room (Nat.le_of_ble_eq_true rfl)) dX4_find_118 ⟨Nat.le_of_ble_eq_true rfl, Nat.le_of_ble_eq_true rfl⟩) (fun _ h => h) (fun r_130 hp_131 => ?_)
                    refine h_iast (i := 2) (x := r_130) hx hb hI hm_123 (by omega) (by decide) dX4_find_121 (fun M_132 H_133 locs_134 eM_135 hI => ?_)
                    have hm_136 : M_132 24 = some (aJ G 2160 sx) := by rw [eM_135, va_up_ne _ _ (by decide)]; exact hm_120
                    have hm_137 : M_132 25 = some (aI G 6 (nF ft)) := by rw [eM_135, va_up_ne _ _ (by decide)]; exact hm_121
                    have hm_138 : M_132 27 = some (aJ G 3 dm) := by rw [eM_135, va_up_ne _ _ (by decide)]; exact hm_122
                    have hm_139 : M_132 28 = some (aI G 3 (upd (upd (upd rc 0 (nI a)) 1 (nI b)) 2 r_130)) := by rw [eM_135]; exact va_up_self _ _ _
                    have hm_140 : M_132 qm = some (cQuestion ad qm aa uv) := by rw [eM_135, va_up_ne _ _ (by omega)]; exact hm_124
                    have hm_141 : M_132 (qm + 2) = some (aZ G 6 (bF nt)) := by rw [eM_135, va_up_ne _ _ (by omega)]; exact hm_125
                    have hm_142 : M_132 (qm + 4) = some (aI G 6 (nF av)) := by rw [eM_135, va_up_ne _ _ (by omega)]; exact hm_126
                    have hm_143 : M_132 23 = some (cMatcher ad qm pz3) := by rw [eM_135, va_up_ne _ _ (by decide)]; exact hm_127
                    have hm_144 : M_132 26 = some (aJ G 240 r2_58) := by rw [eM_135, va_up_ne _ _ (by decide)]; exact hm_128
                    have hF_145 : ∀ j : Nat, j ≠ 23 → j ≠ 26 → j ≠ 28 → M_132 j = M j := fun j q0 q1 q2 => by rw [eM_135, va_up_ne _ _ q2]; exact hF_129 j q0 q1 q2
                    refine lv_iconst (v := nI 1) hx hb dX4_find_122 (by decide) ?_
                    subst hQ
                    exact e_Ni hx hb hr rfl hlocks hI ⟨true, pz3, r2_58, upd (upd (upd rc 0 (nI a)) 1 (nI b)) 2 r_130, hm_143, hm_144, hm_139, (fun j q0 q1 q2 => hF_145 j q0 q1 q2), ⟨rfl, Or.inr ⟨rfl, fnd hy hp_131 hp3 (by omega) (by omega)⟩⟩⟩ dX4_find_123
                · -- 59: bI (inS (dm 1) b) ne
                  have c_84 : inS (dm 1) b = true := bI_t (c_84)
                  refine lv_aload_n hx hb dX4_find_62 rfl (lv_at hl 0 rfl) ?_
                  refine lv_iload_n hx hb dX4_find_63 rfl (lv_at hl 3 rfl) ?_
                  refine k_Rl (va_runV (As := [.int (nI b)]) (rest := []) ⟨hx, hb, hml, hown, hts⟩ (c_X4_answersWith l G z ad Mx (qm := qm) (pz := pz3) (aa := aa) (uv := uv) (nt := nt) (rx := r2_58) (dm := dm) (q := b) hm_69 hm_70 hm_76 hm_78 hm_79 (by omega) (by omega)) (cwV 1 hts (gV (lwg_of t_421 rfl) (lwg_of t_423 rfl) (lwg_of ts_5 rfl) (lwg_of t_11 rfl) (lwg_of t_424 rfl)) rfl rfl rfl (by decide +kernel) ⟨Nat.le_of_ble_eq_true rfl, Nat.le_of_ble_eq_true rfl⟩) (hI.preV hm_69 rfl) rfl rfl hl.1 rfl (lv_room (Nat.le_of_ble_eq_true rfl)) dX4_find_64 ⟨Nat.le_of_ble_eq_true rfl, Nat.le_of_ble_eq_true rfl⟩) (fun _ h => h) (fun r_146 hp_147 => ?_)
                  refine lv_goto (tgt := 71) hx hb dX4_find_67 (by decide) ?_
                  refine lv_lstore (lv' := [(4, .long r_146), (0, .ref (ad 23)), (1, .int (nI q)), (2, .int (nI a)), (3, .int (nI b))]) hx hb dX4_find_71 hl (by decide) rfl (fun ls hl => ?_)
                  have hy : ∀ t, inS r_146 t = (decide (t < 40) && (anP dm sx ft nt aa) (a * 1600 + b * 40 + t)) := hy_A (by assumption) (by assumption) hd2 hrows hp_147 (by omega)
                  have hle4 := cntB_le (inS r_146) 40
                  have hc64 := cn_64 hy
                  have hct := cn_t hy (t := 40) (Nat.le_refl 40)
                  refine lv_lload hx hb dX4_find_73 (lv_at hl 0 rfl) ?_
                  refine k_Ri (va_runS (As := [.long r_146]) (rest := []) ⟨hx, hb, hml, hown, hts⟩ (c_J13_bitCount_95d88 l G z ad Mx (x := r_146) ) (va_cwS 1 hts (gS (lwg_of t_426 rfl) (lwg_of t_427 rfl) (lwg_of t_31 rfl) (lwg_of t_428 rfl)) rfl rfl rfl (by decide +kernel) ⟨Nat.le_of_ble_eq_true rfl, Nat.le_of_ble_eq_true rfl⟩) hI.preS rfl rfl hl.1 rfl (lv_room (Nat.le_of_ble_eq_true rfl)) dX4_find_75 ⟨Nat.le_of_ble_eq_true rfl, Nat.le_of_ble_eq_true rfl⟩) (fun _ h => h) (fun r_148 hp_149 => ?_)
                  rw [hp_149]
                  refine n_eq (show _ = nI (cntB (inS r_146) 40) from by rw [hc64]) ?_
                  refine lv_istore (lv' := [(6, .int (nI (cntB (inS r_146) 40))), (4, .long r_146), (0, .ref (ad 23)), (1, .int (nI q)), (2, .int (nI a)), (3, .int (nI b))]) hx hb dX4_find_78 hl (by decide) rfl (fun ls hl => ?_)
                  refine lv_iload_n hx hb dX4_find_80 rfl (lv_at hl 3 rfl) ?_
                  refine lv_aload_n hx hb dX4_find_81 rfl (lv_at hl 2 rfl) ?_
                  refine h_get (C := RX4) (T := TX4) (N := 7) hx hb hts i_RX4 hown hI hm_69 rfl 6 (by decide) f_77 rfl rfl dX4_find_82 ?_
                  refine lv_isub hx hb dX4_find_85 ?_
                  refine n_eq (pk_sub (a := q) (b := pz3) (by omega)) ?_
                  refine lv_iload hx hb dX4_find_86 (lv_at hl 0 rfl) ?_
                  refine lv_icmp_ge (tgt := 124) hx hb dX4_find_88 (by decide) (fun c_150 => ?_) (fun c_150 => ?_)
                  · -- 88: nI (q - pz3) ge
                    have c_150 : cntB (inS r_146) 40 ≤ q - pz3 := (nI_leI (a := cntB (inS r_146) 40) (b := q - pz3) (by omega) (by omega)).mp (c_150)
                    refine lv_aload_n hx hb dX4_find_124 rfl (lv_at hl 2 rfl) ?_
                    refine lv_dup hx hb dX4_find_125 rfl ?_
                    refine h_get (C := RX4) (T := TX4) (N := 7) hx hb hts i_RX4 hown hI hm_69 rfl 6 (by decide) f_77 rfl rfl dX4_find_126 ?_
                    refine lv_iload hx hb dX4_find_129 (lv_at hl 0 rfl) ?_
                    refine lv_iadd hx hb dX4_find_131 ?_
                    refine n_eq (nI_add pz3 (cntB (inS r_146) 40)) ?_
                    refine h_put (C := RX4) (T := TX4) (N := 7) hx hb hts i_RX4 tyX4 tyX4_ok nmX4 hown hI hm_69 rfl 6 (by decide) f_77 rfl rfl rfl rfl (Nat.le_of_ble_eq_true rfl) dX4_find_132 (fun M_151 H_152 locs_153 eM_154 hI => ?_)
                    have hm_155 : M_151 24 = some (aJ G 2160 sx) := by rw [eM_154, va_up_ne _ _ (by decide)]; exact hm_74
                    have hm_156 : M_151 25 = some (aI G 6 (nF ft)) := by rw [eM_154, va_up_ne _ _ (by decide)]; exact hm_75
                    have hm_157 : M_151 27 = some (aJ G 3 dm) := by rw [eM_154, va_up_ne _ _ (by decide)]; exact hm_76
                    have hm_158 : M_151 28 = some (aI G 3 rc) := by rw [eM_154, va_up_ne _ _ (by decide)]; exact hm_77
                    have hm_159 : M_151 qm = some (cQuestion ad qm aa uv) := by rw [eM_154, va_up_ne _ _ (by omega)]; exact hm_78
                    have hm_160 : M_151 (qm + 2) = some (aZ G 6 (bF nt)) := by rw [eM_154, va_up_ne _ _ (by omega)]; exact hm_79
                    have hm_161 : M_151 (qm + 4) = some (aI G 6 (nF av)) := by rw [eM_154, va_up_ne _ _ (by omega)]; exact hm_80
                    have hm_162 : M_151 23 = some (cMatcher ad qm (pz3 + (cntB (inS r_146) 40))) := by rw [eM_154]; exact va_up_self _ _ _
                    have hm_163 : M_151 26 = some (aJ G 240 r2_58) := by rw [eM_154, va_up_ne _ _ (by decide)]; exact hm_70
                    have hF_164 : ∀ j : Nat, j ≠ 23 → j ≠ 26 → M_151 j = M j := fun j q0 q1 => by rw [eM_154, va_up_ne _ _ q0]; exact hF_72 j q0 q1
                    refine lv_iinc (v := nI (b + 1)) (lv' := [(3, .int (nI (b + 1))), (6, .int (nI (cntB (inS r_146) 40))), (4, .long r_146), (0, .ref (ad 23)), (1, .int (nI q)), (2, .int (nI a))]) hx hb dX4_find_135 hl (k := 5) rfl (nI_add b 1) (by decide) rfl (fun ls hl => ?_)
                    refine lv_goto (tgt := 43) hx hb dX4_find_138 (by decide) ?_
                    exact ih_73 (b + 1) (pz3 + (cntB (inS r_146) 40)) M_151 H_152 locs_153 ls (by omega) (by omega) (by rw [show a * 1600 + (b + 1) * 40 = a * 1600 + b * 40 + 40 by omega, hct, ← hp3]) (by omega) hI hm_162 hm_163 (fun j q0 q1 => hF_164 j q0 q1) (lv_sub hl [3, 4, 5, 0] rfl)
                  · -- 88: nI (q - pz3) lt
                    have c_150 : q - pz3 < cntB (inS r_146) 40 := by have h := mt (nI_leI (a := cntB (inS r_146) 40) (b := q - pz3) (by omega) (by omega)).mpr c_150; omega
                    refine lv_aload_n hx hb dX4_find_91 rfl (lv_at hl 2 rfl) ?_
                    refine h_get (C := RX4) (T := TX4) (N := 7) hx hb hts i_RX4 hown hI hm_69 rfl 4 (by decide) f_25 rfl rfl dX4_find_92 ?_
                    refine lv_iconst (v := nI 0) hx hb dX4_find_95 (by decide) ?_
                    refine lv_iload_n hx hb dX4_find_96 rfl (lv_at hl 4 rfl) ?_
                    refine h_iast (i := 0) (x := nI a) hx hb hI hm_77 (by omega) (by decide) dX4_find_97 (fun M_165 H_166 locs_167 eM_168 hI => ?_)
                    have hm_169 : M_165 24 = some (aJ G 2160 sx) := by rw [eM_168, va_up_ne _ _ (by decide)]; exact hm_74
                    have hm_170 : M_165 25 = some (aI G 6 (nF ft)) := by rw [eM_168, va_up_ne _ _ (by decide)]; exact hm_75
                    have hm_171 : M_165 27 = some (aJ G 3 dm) := by rw [eM_168, va_up_ne _ _ (by decide)]; exact hm_76
                    have hm_172 : M_165 28 = some (aI G 3 (upd rc 0 (nI a))) := by rw [eM_168]; exact va_up_self _ _ _
                    have hm_173 : M_165 qm = some (cQuestion ad qm aa uv) := by rw [eM_168, va_up_ne _ _ (by omega)]; exact hm_78
                    have hm_174 : M_165 (qm + 2) = some (aZ G 6 (bF nt)) := by rw [eM_168, va_up_ne _ _ (by omega)]; exact hm_79
                    have hm_175 : M_165 (qm + 4) = some (aI G 6 (nF av)) := by rw [eM_168, va_up_ne _ _ (by omega)]; exact hm_80
                    have hm_176 : M_165 23 = some (cMatcher ad qm pz3) := by rw [eM_168, va_up_ne _ _ (by decide)]; exact hm_69
                    have hm_177 : M_165 26 = some (aJ G 240 r2_58) := by rw [eM_168, va_up_ne _ _ (by decide)]; exact hm_70
                    have hF_178 : ∀ j : Nat, j ≠ 23 → j ≠ 26 → j ≠ 28 → M_165 j = M j := fun j q0 q1 q2 => by rw [eM_168, va_up_ne _ _ q2]; exact hF_72 j q0 q1
                    refine lv_aload_n hx hb dX4_find_98 rfl (lv_at hl 2 rfl) ?_
                    refine h_get (C := RX4) (T := TX4) (N := 7) hx hb hts i_RX4 hown hI hm_176 rfl 4 (by decide) f_25 rfl rfl dX4_find_99 ?_
                    refine lv_iconst (v := nI 1) hx hb dX4_find_102 (by decide) ?_
                    refine lv_iload_n hx hb dX4_find_103 rfl (lv_at hl 5 rfl) ?_
                    refine h_iast (i := 1) (x := nI b) hx hb hI hm_172 (by omega) (by decide) dX4_find_104 (fun M_179 H_180 locs_181 eM_182 hI => ?_)
                    have hm_183 : M_179 24 = some (aJ G 2160 sx) := by rw [eM_182, va_up_ne _ _ (by decide)]; exact hm_169
                    have hm_184 : M_179 25 = some (aI G 6 (nF ft)) := by rw [eM_182, va_up_ne _ _ (by decide)]; exact hm_170
                    have hm_185 : M_179 27 = some (aJ G 3 dm) := by rw [eM_182, va_up_ne _ _ (by decide)]; exact hm_171
                    have hm_186 : M_179 28 = some (aI G 3 (upd (upd rc 0 (nI a)) 1 (nI b))) := by rw [eM_182]; exact va_up_self _ _ _
                    have hm_187 : M_179 qm = some (cQuestion ad qm aa uv) := by rw [eM_182, va_up_ne _ _ (by omega)]; exact hm_173
                    have hm_188 : M_179 (qm + 2) = some (aZ G 6 (bF nt)) := by rw [eM_182, va_up_ne _ _ (by omega)]; exact hm_174
                    have hm_189 : M_179 (qm + 4) = some (aI G 6 (nF av)) := by rw [eM_182, va_up_ne _ _ (by omega)]; exact hm_175
                    have hm_190 : M_179 23 = some (cMatcher ad qm pz3) := by rw [eM_182, va_up_ne _ _ (by decide)]; exact hm_176
                    have hm_191 : M_179 26 = some (aJ G 240 r2_58) := by rw [eM_182, va_up_ne _ _ (by decide)]; exact hm_177
                    have hF_192 : ∀ j : Nat, j ≠ 23 → j ≠ 26 → j ≠ 28 → M_179 j = M j := fun j q0 q1 q2 => by rw [eM_182, va_up_ne _ _ q2]; exact hF_178 j q0 q1 q2
                    refine lv_aload_n hx hb dX4_find_105 rfl (lv_at hl 2 rfl) ?_
                    refine h_get (C := RX4) (T := TX4) (N := 7) hx hb hts i_RX4 hown hI hm_190 rfl 4 (by decide) f_25 rfl rfl dX4_find_106 ?_
                    refine lv_iconst (v := nI 2) hx hb dX4_find_109 (by decide) ?_
                    refine lv_lload hx hb dX4_find_110 (lv_at hl 1 rfl) ?_
                    refine lv_iload_n hx hb dX4_find_112 rfl (lv_at hl 3 rfl) ?_
                    refine lv_aload_n hx hb dX4_find_113 rfl (lv_at hl 2 rfl) ?_
                    refine h_get (C := RX4) (T := TX4) (N := 7) hx hb hts i_RX4 hown hI hm_190 rfl 6 (by decide) f_77 rfl rfl dX4_find_114 ?_
                    refine lv_isub hx hb dX4_find_117 ?_
                    refine n_eq (pk_sub (a := q) (b := pz3) (by omega)) ?_
                    refine k_Ri (va_runS (As := [.long r_146, .int (nI (q - pz3))]) (rest := [.int (nI 2), .ref (ad 28)]) ⟨hx, hb, hml, hown, hts⟩ (c_X4_member l G z ad M_179 (x := r_146) (q := q - pz3) (by omega)) (va_cwS 2 hts (gS (lwg_of t_432 rfl) (lwg_of t_433 rfl) (lwg_of t_11 rfl) (lwg_of t_434 rfl)) rfl rfl rfl (by decide +kernel) ⟨Nat.le_of_ble_eq_true rfl, Nat.le_of_ble_eq_true rfl⟩) hI.preS rfl rfl hl.1 rfl (lv_room (Nat.le_of_ble_eq_true rfl)) dX4_find_118 ⟨Nat.le_of_ble_eq_true rfl, Nat.le_of_ble_eq_true rfl⟩) (fun _ h => h) (fun r_193 hp_194 => ?_)
                    refine h_iast (i := 2) (x := r_193) hx hb hI hm_186 (by omega) (by decide) dX4_find_121 (fun M_195 H_196 locs_197 eM_198 hI => ?_)
                    have hm_199 : M_195 24 = some (aJ G 2160 sx) := by rw [eM_198, va_up_ne _ _ (by decide)]; exact hm_183
                    have hm_200 : M_195 25 = some (aI G 6 (nF ft)) := by rw [eM_198, va_up_ne _ _ (by decide)]; exact hm_184
                    have hm_201 : M_195 27 = some (aJ G 3 dm) := by rw [eM_198, va_up_ne _ _ (by decide)]; exact hm_185
                    have hm_202 : M_195 28 = some (aI G 3 (upd (upd (upd rc 0 (nI a)) 1 (nI b)) 2 r_193)) := by rw [eM_198]; exact va_up_self _ _ _
                    have hm_203 : M_195 qm = some (cQuestion ad qm aa uv) := by rw [eM_198, va_up_ne _ _ (by omega)]; exact hm_187
                    have hm_204 : M_195 (qm + 2) = some (aZ G 6 (bF nt)) := by rw [eM_198, va_up_ne _ _ (by omega)]; exact hm_188
                    have hm_205 : M_195 (qm + 4) = some (aI G 6 (nF av)) := by rw [eM_198, va_up_ne _ _ (by omega)]; exact hm_189
                    have hm_206 : M_195 23 = some (cMatcher ad qm pz3) := by rw [eM_198, va_up_ne _ _ (by decide)]; exact hm_190
                    have hm_207 : M_195 26 = some (aJ G 240 r2_58) := by rw [eM_198, va_up_ne _ _ (by decide)]; exact hm_191
                    have hF_208 : ∀ j : Nat, j ≠ 23 → j ≠ 26 → j ≠ 28 → M_195 j = M j := fun j q0 q1 q2 => by rw [eM_198, va_up_ne _ _ q2]; exact hF_192 j q0 q1 q2
                    refine lv_iconst (v := nI 1) hx hb dX4_find_122 (by decide) ?_
                    subst hQ
                    exact e_Ni hx hb hr rfl hlocks hI ⟨true, pz3, r2_58, upd (upd (upd rc 0 (nI a)) 1 (nI b)) 2 r_193, hm_206, hm_207, hm_202, (fun j q0 q1 q2 => hF_208 j q0 q1 q2), ⟨rfl, Or.inr ⟨rfl, fnd hy hp_194 hp3 (by omega) (by omega)⟩⟩⟩ dX4_find_123
          exact lp43_68 ((40 - 0) + 1) 0 pz2 M_52 H_53 locs_54 ls (Nat.lt_succ_self _) (by omega) (by rw [hp2]; rfl) (by omega) hI hm_66 hm_55 (fun j q0 q1 => hF_67 j q0 q1) (lv_sub hl [1, 2, 3, 0] rfl)
        · -- 29: bI (inS (dm 0) a) eq
          have c_49 : inS (dm 0) a = false := bI_f (c_49)
          refine lv_goto (tgt := 141) hx hb dX4_find_32 (by decide) ?_
          refine lv_iinc (v := nI (a + 1)) (lv' := [(2, .int (nI (a + 1))), (0, .ref (ad 23)), (1, .int (nI q))]) hx hb dX4_find_141 hl (k := 2) rfl (nI_add a 1) (by decide) rfl (fun ls hl => ?_)
          refine lv_goto (tgt := 13) hx hb dX4_find_144 (by decide) ?_
          exact ih_38 (a + 1) pz2 g Mx Hx locsx ls (by omega) (by omega) (by rw [cn_skip (by assumption)]; exact hp2) (by omega) (hrow) hI hm_34 hm_35 (fun j q0 q1 => hF_37 j q0 q1) (lv_sub hl [1, 2, 0] rfl)
  exact lp13_33 ((40 - 0) + 1) 0 0 r2_23 M_17 H_18 locs_19 ls (Nat.lt_succ_self _) (by omega) (rfl) (by omega) (fun i9 h9 h8 => (hP_22 i9 h9).1 h8) hI hm_24 hm_20 (fun j q0 q1 => hF_32 j q0 q1) (lv_sub hl [1, 2, 0] rfl)

/-- X4_howMany -/
abbrev rm_c_X4_howMany : Room := { frames := 4, cells := 0, slots := 0, locals := 97 }
set_option maxHeartbeats 4000000 in
set_option maxRecDepth 100000 in
theorem c_X4_howMany (l : Launch) (G : GG) (z : Nat) (ad : Nat → Nat) (M : Mem) {qm : Nat} {pz : Nat} {aa : Nat} {uv : Nat} {av : Nat → Nat} {nt : Nat → Bool} {sx : Nat → Int64} {ft : Nat → Nat} {rx : Nat → Int64} {dm : Nat → Int64} {rc : Nat → Int32} (h23 : M 23 = some (cMatcher ad qm pz)) (h24 : M 24 = some (aJ G 2160 sx)) (h25 : M 25 = some (aI G 6 (nF ft))) (h26 : M 26 = some (aJ G 240 rx)) (h27 : M 27 = some (aJ G 3 dm)) (h28 : M 28 = some (aI G 3 rc)) (hk : M qm = some (cQuestion ad qm aa uv)) (q2 : M (qm + 2) = some (aZ G 6 (bF nt))) (q4 : M (qm + 4) = some (aI G 6 (nF av))) (hqm : 29 < qm ∧ qm < 51) (haa : aa ≤ 6) (hav : ∀ i, i < aa → av i < 8) (hft : ∀ i, i < aa → ft i ≤ 120) (hd2 : ∀ t, inS (dm 2) t = true → t < 40) (hS0 : ∀ i, i < aa → (av i).testBit 0 = false → ∀ f, f < ft i → ∀ t, t < 40 → inS (sx ((i * 120 + f) * 3)) t = true) : Met l yX4_howMany wsX4_howMany rm_c_X4_howMany (Pr G z ad M [.ref (ad 23)]) (Ni G z ad (fun (r : Int32) (M' : Mem) => ∃ p2 : Nat, ∃ r2 : Nat → Int64, ∃ rc2 : Nat → Int32, r = nI (cntB (anP dm sx ft nt aa) 64000) ∧ M' 23 = some (cMatcher ad qm p2) ∧ M' 26 = some (aJ G 240 r2) ∧ M' 28 = some (aI G 3 rc2) ∧ (∀ j : Nat, j ≠ 23 → j ≠ 26 → j ≠ 28 → M' j = M j))) 0 0 (fr z) := by
  refine Met.ofW (cc := cX4_howMany) (maxL := 1) (ret := (some .int)) (by decide) rfl ?_
  intro p e s m args below meth c s₁ B hml hv
  obtain ⟨rfl, hv⟩ := hv
  have hI := Iv.entry hv
  have hx := B.exec
  have hb := B.bytes
  have hr := B.returns
  have hts := atoms_spec (ws := wsX4_howMany) B.pre
  have hown : s.vm.findClass RX4 = some m.cls := findClass_of_methodNamed B.named
  have hlocks := B.notSynchronized
  have k_73 := hts _ (List.mem_cons_of_mem _ (lwg_of t_401 rfl))
  have i_RX4 : ∀ w ∈ u_ws RX4 TX4 7, w ∈ wsX4_howMany := fun w h => List.mem_cons_of_mem _ (iu_X4 w h)
  have f_77 := hts _ (List.mem_cons_of_mem _ (lwg_of t_221 rfl))
  have hl := lv_entry ([.ref (ad 23)]) (n := 1) (Nat.le_of_ble_eq_true rfl)
  rw [lg_entry_eq]
  generalize (lg_sl ([.ref (ad 23)]) ++ List.replicate (1 - (lg_sl ([.ref (ad 23)])).length) Slot.unset).toArray = ls at hl ⊢
  have hl : lv_has ls 1 [(0, .ref (ad 23))] := hl
  refine lv_aload_n hx hb dX4_howMany_0 rfl (lv_at hl 0 rfl) ?_
  refine lv_ldc hx hb hown k_73 dX4_howMany_1 ?_
  refine n_eq (show _ = nI 64000 from by decide) ?_
  refine k_Ni (va_runV (As := [.int (nI 64000)]) (rest := []) ⟨hx, hb, hml, hown, hts⟩ (c_X4_find l G z ad M (qm := qm) (pz := pz) (aa := aa) (uv := uv) (av := av) (nt := nt) (sx := sx) (ft := ft) (rx := rx) (dm := dm) (rc := rc) (q := 64000) h23 h24 h25 h26 h27 h28 hk q2 q4 (by omega) (by omega) hav hft hd2 hS0 (by omega)) (cwV 1 hts (gV (lwg_of t_402 rfl) (lwg_of t_403 rfl) (lwg_of t_404 rfl) (lwg_of t_11 rfl) (lwg_of t_405 rfl)) rfl rfl rfl (by decide +kernel) ⟨Nat.le_of_ble_eq_true rfl, Nat.le_of_ble_eq_true rfl⟩) (hI.preV h23 rfl) rfl rfl hl.1 rfl (lv_room (Nat.le_of_ble_eq_true rfl)) dX4_howMany_3 ⟨Nat.le_of_ble_eq_true rfl, Nat.le_of_ble_eq_true rfl⟩) hI (fun r_1 M_3 H_4 locs_5 hp_2 hI => ?_)
  obtain ⟨b2_11, p2_12, r2_13, rc2_14, hm_6, hm_7, hm_8, hF_9, hP_10⟩ := hp_2
  have hm_15 : M_3 24 = some (aJ G 2160 sx) := by rw [hF_9 24 (by omega) (by omega) (by omega)]; exact h24
  have hm_16 : M_3 25 = some (aI G 6 (nF ft)) := by rw [hF_9 25 (by omega) (by omega) (by omega)]; exact h25
  have hm_17 : M_3 27 = some (aJ G 3 dm) := by rw [hF_9 27 (by omega) (by omega) (by omega)]; exact h27
  have hm_18 : M_3 qm = some (cQuestion ad qm aa uv) := by rw [hF_9 qm (by omega) (by omega) (by omega)]; exact hk
  have hm_19 : M_3 (qm + 2) = some (aZ G 6 (bF nt)) := by rw [hF_9 (qm + 2) (by omega) (by omega) (by omega)]; exact q2
  have hm_20 : M_3 (qm + 4) = some (aI G 6 (nF av)) := by rw [hF_9 (qm + 4) (by omega) (by omega) (by omega)]; exact q4
  have hF_21 : ∀ j : Nat, j ≠ 23 → j ≠ 26 → j ≠ 28 → M_3 j = M j := fun j q0 q1 q2 => (hF_9 j q0 q1 q2)
  have hpx : p2_12 = cntB (anP dm sx ft nt aa) 64000 := by
    rcases hP_10.2 with h9 | h9
    · exact h9.2.1
    · obtain ⟨_, k9, h8, _, h7, _⟩ := h9
      have h6 := cntB_le (anP dm sx ft nt aa) k9
      omega
  refine lv_pop hx hb dX4_howMany_6 rfl ?_
  refine lv_aload_n hx hb dX4_howMany_7 rfl (lv_at hl 0 rfl) ?_
  refine h_get (C := RX4) (T := TX4) (N := 7) hx hb hts i_RX4 hown hI hm_6 rfl 6 (by decide) f_77 rfl rfl dX4_howMany_8 ?_
  exact e_Ni hx hb hr rfl hlocks hI ⟨p2_12, r2_13, rc2_14, (by rw [hpx]), hm_6, hm_7, hm_8, (fun j q0 q1 q2 => hF_21 j q0 q1 q2)⟩ dX4_howMany_11

/-- X4_found -/
abbrev rm_c_X4_found : Room := { frames := 0, cells := 0, slots := 0, locals := 0 }
set_option maxHeartbeats 4000000 in
set_option maxRecDepth 100000 in
theorem c_X4_found (l : Launch) (G : GG) (z : Nat) (ad : Nat → Nat) (M : Mem) {qm : Nat} {pz : Nat} {rc : Nat → Int32} {v : Nat} (h23 : M 23 = some (cMatcher ad qm pz)) (h28 : M 28 = some (aI G 3 rc)) (hv3 : v < 3) : Met l yX4_found wsX4_found rm_c_X4_found (Pr G z ad M [.ref (ad 23), .int (nI v)]) (vp_Si (fun r : Int32 => r = rc v)) 0 0 (fun _ => False) := by
  refine Met.ofW (cc := cX4_found) (maxL := 2) (ret := (some .int)) (by decide) rfl ?_
  intro p e s m args below meth c s₁ B hml hv
  obtain ⟨rfl, hv⟩ := hv
  have hI := Iv.entry hv
  have hx := B.exec
  have hb := B.bytes
  have hr := B.returns
  have hts := atoms_spec (ws := wsX4_found) B.pre
  have hown : s.vm.findClass RX4 = some m.cls := findClass_of_methodNamed B.named
  have hlocks := B.notSynchronized
  have i_RX4 : ∀ w ∈ u_ws RX4 TX4 7, w ∈ wsX4_found := fun w h => List.mem_cons_of_mem _ (iu_X4 w h)
  have f_25 := hts _ (List.mem_cons_of_mem _ (lwg_of t_219 rfl))
  have hl := lv_entry ([.ref (ad 23), .int (nI v)]) (n := 2) (Nat.le_of_ble_eq_true rfl)
  rw [lg_entry_eq]
  generalize (lg_sl ([.ref (ad 23), .int (nI v)]) ++ List.replicate (2 - (lg_sl ([.ref (ad 23), .int (nI v)])).length) Slot.unset).toArray = ls at hl ⊢
  have hl : lv_has ls 2 [(0, .ref (ad 23)), (1, .int (nI v))] := hl
  refine lv_aload_n hx hb dX4_found_0 rfl (lv_at hl 0 rfl) ?_
  refine h_get (C := RX4) (T := TX4) (N := 7) hx hb hts i_RX4 hown hI h23 rfl 4 (by decide) f_25 rfl rfl dX4_found_1 ?_
  refine lv_iload_n hx hb dX4_found_4 rfl (lv_at hl 1 rfl) ?_
  refine h_iald (i := v) hx hb hI h28 (by omega) (by decide) dX4_found_5 ?_
  exact e_Ri hx hb hr rfl hlocks (rfl) dX4_found_6
