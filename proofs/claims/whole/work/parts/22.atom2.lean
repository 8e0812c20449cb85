section RA
variable {tb : Nat → Nat} {len : Nat} {nt : Bool} {m g uv p p' x t uv' f : Nat}
theorem rdParts_f (h : rdPart tb len nt uv p = .inl f) : rdParts tb len nt (m + 1) g uv p = .inl f := by rw [rdParts, h]
theorem rdParts_c (h : rdPart tb len nt uv p = .inr (p', x, t, uv')) (h2 : tkn tb len p' = nI 44) : rdParts tb len nt (m + 1) g uv p = preR [(x, t)] (rdParts tb len nt m (sk tb len p') uv' (ps tb len p')) := by rw [rdParts, h]; simp only; rw [if_pos h2]
theorem rdParts_e (h : rdPart tb len nt uv p = .inr (p', x, t, uv')) (h2 : ¬ tkn tb len p' = nI 44) (h3 : tkn tb len p' = nI 41) : rdParts tb len nt (m + 1) g uv p = .inr (ps tb len p', [(x, t)], uv') := by rw [rdParts, h]; simp only; rw [if_neg h2, if_pos h3]
theorem rdParts_n (h : rdPart tb len nt uv p = .inr (p', x, t, uv')) (h2 : ¬ tkn tb len p' = nI 44) (h3 : ¬ tkn tb len p' = nI 41) : rdParts tb len nt (m + 1) g uv p = .inl (sk tb len p') := by rw [rdParts, h]; simp only; rw [if_neg h2, if_neg h3]
theorem ra_1 (h : ¬ tkn tb len p = nI 107) : rdAtom1 tb len nt uv p = .inl (sk tb len p) := by rw [rdAtom1, if_pos h]
theorem ra_2 (h : tkn tb len p = nI 107) (h2 : nmb tb len (ps tb len p) 6 = false) : rdAtom1 tb len nt uv p = .inl (sk tb len (ps tb len p)) := by rw [rdAtom1, if_neg (Decidable.not_not.mpr h), if_pos h2]
theorem ra_3 (h : tkn tb len p = nI 107) (h2 : nmb tb len (ps tb len p) 6 = true) (h3 : ¬ tkn tb len (ps tb len (ps tb len p)) = nI 40) : rdAtom1 tb len nt uv p = .inl (sk tb len (ps tb len (ps tb len p))) := by rw [rdAtom1, if_neg (Decidable.not_not.mpr h), if_neg (by rw [h2]; exact Bool.noConfusion), if_pos h3]
theorem ra_4 (h : tkn tb len p = nI 107) (h2 : nmb tb len (ps tb len p) 6 = true) (h3 : tkn tb len (ps tb len (ps tb len p)) = nI 40) (h4 : rdParts tb len nt 4 (sk tb len (ps tb len (ps tb len p))) uv (ps tb len (ps tb len (ps tb len p))) = .inl f) : rdAtom1 tb len nt uv p = .inl f := by rw [rdAtom1, if_neg (Decidable.not_not.mpr h), if_neg (by rw [h2]; exact Bool.noConfusion), if_neg (Decidable.not_not.mpr h3), h4]
theorem ra_5 {L : List (Nat × Nat)} (h : tkn tb len p = nI 107) (h2 : nmb tb len (ps tb len p) 6 = true) (h3 : tkn tb len (ps tb len (ps tb len p)) = nI 40) (h4 : rdParts tb len nt 4 (sk tb len (ps tb len (ps tb len p))) uv (ps tb len (ps tb len (ps tb len p))) = .inr (p', L, uv')) : rdAtom1 tb len nt uv p = .inr (p', (nmq tb len (ps tb len p), nt, L), uv') := by rw [rdAtom1, if_neg (Decidable.not_not.mpr h), if_neg (by rw [h2]; exact Bool.noConfusion), if_neg (Decidable.not_not.mpr h3), h4]
theorem ra_t (h : tkn tb len p = -3) : rdAtom tb len uv p = rdAtom1 tb len true uv (ps tb len p) := if_pos h
theorem ra_ff (h : ¬ tkn tb len p = -3) : rdAtom tb len uv p = rdAtom1 tb len false uv p := if_neg h
end RA

/-- X7_readAtom -/
abbrev rm_c_X7_readAtom : Room := { frames := 5, cells := 0, slots := 0, locals := 109 }
set_option maxHeartbeats 4000000 in
set_option maxRecDepth 100000 in
theorem c_X7_readAtom (l : Launch) (G : GG) (z : Nat) (ad : Nat → Nat) (M : Mem) {aa : Nat} {bg : Nat} {tk : Int32} {vl : Int32} {len : Nat} {tb : Nat → Nat} {k : Nat} {qa : Nat} {uv : Nat} {kn : Nat → Nat} {nt : Nat → Bool} {pn : Nat → Nat} {av : Nat → Nat} {ro : Nat → Nat} {te : Nat → Nat} (h22 : M 22 = some (cReader ad aa bg tk vl)) (h1 : M 1 = some (cTape ad len)) (h2 : M 2 = some (aI G 400 (nF tb))) (hk : M k = some (cQuestion ad k qa uv)) (q1 : M (k + 1) = some (aI G 6 (nF kn))) (q2 : M (k + 2) = some (aZ G 6 (bF nt))) (q3 : M (k + 3) = some (aI G 6 (nF pn))) (q4 : M (k + 4) = some (aI G 6 (nF av))) (q5 : M (k + 5) = some (aI G 24 (nF ro))) (q6 : M (k + 6) = some (aI G 24 (nF te))) (hl4 : len ≤ 400) (htb : ∀ j, j < len → tb j < 256) (ha9 : aa ≤ len) (hk9 : 30 ≤ k ∧ k ≤ 44) (hqa : qa < 6) (huv : uv < 8) : Met l yX7_readAtom wsX7_readAtom rm_c_X7_readAtom (Pr G z ad M [.ref (ad 22), .ref (ad 1), .ref (ad k)]) (Ni G z ad (fun (r : Int32) (M' : Mem) => ∃ b2 : Bool, ∃ a2 : Nat, ∃ g2 : Nat, ∃ t2 : Int32, ∃ v2 : Int32, ∃ qa2 : Nat, ∃ uv2 : Nat, ∃ kn2 : Nat → Nat, ∃ nt2 : Nat → Bool, ∃ pn2 : Nat → Nat, ∃ av2 : Nat → Nat, ∃ ro2 : Nat → Nat, ∃ te2 : Nat → Nat, M' 22 = some (cReader ad a2 g2 t2 v2) ∧ M' k = some (cQuestion ad k qa2 uv2) ∧ M' (k + 1) = some (aI G 6 (nF kn2)) ∧ M' (k + 2) = some (aZ G 6 (bF nt2)) ∧ M' (k + 3) = some (aI G 6 (nF pn2)) ∧ M' (k + 4) = some (aI G 6 (nF av2)) ∧ M' (k + 5) = some (aI G 24 (nF ro2)) ∧ M' (k + 6) = some (aI G 24 (nF te2)) ∧ (∀ j : Nat, j ≠ 22 → j ≠ k → j ≠ (k + 1) → j ≠ (k + 2) → j ≠ (k + 3) → j ≠ (k + 4) → j ≠ (k + 5) → j ≠ (k + 6) → M' j = M j) ∧ (r = bI b2 ∧ a2 ≤ len ∧ (b2 = false ∧ rdAtom tb len uv aa = .inl g2 ∨ b2 = true ∧ ∃ L, rdAtom tb len uv aa = .inr (a2, (kn2 qa, nt2 qa, L), uv2) ∧ uv2 < 8 ∧ qa2 = qa + 1 ∧ kn2 qa < 6 ∧ ptR pn2 av2 ro2 te2 qa L ∧ L.length ≤ 4 ∧ (∀ j, j < qa → kn2 j = kn j ∧ nt2 j = nt j) ∧ sameB qa pn av ro te pn2 av2 ro2 te2)))) 0 0 (fr z) := by
  refine Met.ofW (cc := cX7_readAtom) (maxL := 5) (ret := (some .boolean)) (by decide) rfl ?_
  intro p e s m args below meth c s₁ B hml hv
  obtain ⟨rfl, hv⟩ := hv
  have hI := Iv.entry hv
  have hx := B.exec
  have hb := B.bytes
  have hr := B.returns
  have hts := atoms_spec (ws := wsX7_readAtom) B.pre
  have hown : s.vm.findClass RX7 = some m.cls := findClass_of_methodNamed B.named
  have hlocks := B.notSynchronized
  have i_RX7 : ∀ w ∈ u_ws RX7 TX7 4, w ∈ wsX7_readAtom := fun w h => List.mem_cons_of_mem _ (iu_X7 w h)
  have f_31 := hts _ (List.mem_cons_of_mem _ (lwg_of t_166 rfl))
  have f_38 := hts _ (List.mem_cons_of_mem _ (lwg_of t_167 rfl))
  have hl := lv_entry ([.ref (ad 22), .ref (ad 1), .ref (ad k)]) (n := 5) (Nat.le_of_ble_eq_true rfl)
  rw [lg_entry_eq]
  generalize (lg_sl ([.ref (ad 22), .ref (ad 1), .ref (ad k)]) ++ List.replicate (5 - (lg_sl ([.ref (ad 22), .ref (ad 1), .ref (ad k)])).length) Slot.unset).toArray = ls at hl ⊢
  have hl : lv_has ls 5 [(0, .ref (ad 22)), (1, .ref (ad 1)), (2, .ref (ad k))] := hl
  refine w_q (fun Q hQ => ?_)
  have ple1 := ps_le (tb := tb) ha9
  have ple2 := ps_le (tb := tb) ple1
  have ple3 := ps_le (tb := tb) ple2
  have ple4 := ps_le (tb := tb) ple3
  refine lv_aload_n hx hb dX7_readAtom_0 rfl (lv_at hl 0 rfl) ?_
  refine lv_aload_n hx hb dX7_readAtom_1 rfl (lv_at hl 1 rfl) ?_
  refine k_Nv (va_runV (As := [.ref (ad 1)]) (rest := []) ⟨hx, hb, hml, hown, hts⟩ (c_X7_next2 l G z ad M (aa := aa) (bg := bg) (tk := tk) (vl := vl) (len := len) (tb := tb) h22 h1 h2 (by omega) htb (by omega)) (cwV 1 hts (gV (lwg_of t_919 rfl) (lwg_of t_921 rfl) (lwg_of ts_16 rfl) (lwg_of t_10 rfl) (lwg_of t_922 rfl)) rfl rfl rfl (by decide +kernel) ⟨Nat.le_of_ble_eq_true rfl, Nat.le_of_ble_eq_true rfl⟩) (hI.preV h22 rfl) rfl rfl hl.1 rfl (lv_room (Nat.le_of_ble_eq_true rfl)) dX7_readAtom_2 ⟨Nat.le_of_ble_eq_true rfl, Nat.le_of_ble_eq_true rfl⟩) hI (fun M_3 H_4 locs_5 hp_2 hI => ?_)
  obtain ⟨hm_6, hF_7⟩ := hp_2
  have hm_8 : M_3 1 = some (cTape ad len) := by rw [hF_7 1 (by omega)]; exact h1
  have hm_9 : M_3 2 = some (aI G 400 (nF tb)) := by rw [hF_7 2 (by omega)]; exact h2
  have hm_10 : M_3 k = some (cQuestion ad k qa uv) := by rw [hF_7 k (by omega)]; exact hk
  have hm_11 : M_3 (k + 1) = some (aI G 6 (nF kn)) := by rw [hF_7 (k + 1) (by omega)]; exact q1
  have hm_12 : M_3 (k + 2) = some (aZ G 6 (bF nt)) := by rw [hF_7 (k + 2) (by omega)]; exact q2
  have hm_13 : M_3 (k + 3) = some (aI G 6 (nF pn)) := by rw [hF_7 (k + 3) (by omega)]; exact q3
  have hm_14 : M_3 (k + 4) = some (aI G 6 (nF av)) := by rw [hF_7 (k + 4) (by omega)]; exact q4
  have hm_15 : M_3 (k + 5) = some (aI G 24 (nF ro)) := by rw [hF_7 (k + 5) (by omega)]; exact q5
  have hm_16 : M_3 (k + 6) = some (aI G 24 (nF te)) := by rw [hF_7 (k + 6) (by omega)]; exact q6
  have hF_17 : ∀ j : Nat, j ≠ 22 → M_3 j = M j := fun j q0 => (hF_7 j q0)
  refine lv_aload_n hx hb dX7_readAtom_5 rfl (lv_at hl 0 rfl) ?_
  refine h_get (C := RX7) (T := TX7) (N := 4) hx hb hts i_RX7 hown hI hm_6 rfl 2 (by decide) f_31 rfl rfl dX7_readAtom_6 ?_
  refine lv_bipush (v := (-3)) hx hb dX7_readAtom_9 (by decide) ?_
  refine lv_icmp_ne (tgt := 18) hx hb dX7_readAtom_11 (by decide) (fun c_18 => ?_) (fun c_18 => ?_)
  · -- 11: (tkn tb len aa) ne
    refine lv_iconst (v := nI 0) hx hb dX7_readAtom_18 (by decide) ?_
    refine n_eq (show _ = bI false from rfl) ?_
    refine lv_istore_n (lv' := [(3, .int (bI false)), (0, .ref (ad 22)), (1, .ref (ad 1)), (2, .ref (ad k))]) hx hb dX7_readAtom_19 rfl hl (by decide) rfl (fun ls hl => ?_)
    refine lv_iload_n hx hb dX7_readAtom_20 rfl (lv_at hl 0 rfl) ?_
    refine lv_if_eq (tgt := 29) hx hb dX7_readAtom_21 (by decide) (fun c_19 => ?_) (fun c_19 => ?_)
    · -- 21: bI false eq
      have c_19 : false = false := bI_f (c_19)
      refine lv_aload_n hx hb dX7_readAtom_29 rfl (lv_at hl 1 rfl) ?_
      refine h_get (C := RX7) (T := TX7) (N := 4) hx hb hts i_RX7 hown hI hm_6 rfl 2 (by decide) f_31 rfl rfl dX7_readAtom_30 ?_
      refine lv_bipush (v := nI 107) hx hb dX7_readAtom_33 (by decide) ?_
      refine lv_icmp_ne (tgt := 60) hx hb dX7_readAtom_35 (by decide) (fun c_20 => ?_) (fun c_20 => ?_)
      · -- 35: (tkn tb len aa) ne
        refine lv_iconst (v := nI 0) hx hb dX7_readAtom_60 (by decide) ?_
        subst hQ
        exact e_Ni hx hb hr rfl hlocks hI ⟨false, ps tb len aa, sk tb len aa, tkn tb len aa, vln tb len aa vl, qa, uv, kn, nt, pn, av, ro, te, hm_6, hm_10, hm_11, hm_12, hm_13, hm_14, hm_15, hm_16, (fun j q0 q1 q2 q3 q4 q5 q6 q7 => hF_17 j q0), ⟨rfl, ple1, Or.inl ⟨rfl, (ra_ff (by assumption)).trans (ra_1 (by assumption))⟩⟩⟩ dX7_readAtom_61
      · -- 35: (tkn tb len aa) eq
        have hc107 : tkn tb len (aa) = nI 107 := by assumption
        refine lv_aload_n hx hb dX7_readAtom_38 rfl (lv_at hl 1 rfl) ?_
        refine lv_aload_n hx hb dX7_readAtom_39 rfl (lv_at hl 2 rfl) ?_
        refine lv_bipush (v := nI 6) hx hb dX7_readAtom_40 (by decide) ?_
        refine k_Ni (va_runV (As := [.ref (ad 1), .int (nI 6)]) (rest := []) ⟨hx, hb, hml, hown, hts⟩ (c_X7_readNumber l G z ad M_3 (aa := ps tb len aa) (bg := sk tb len aa) (tk := tkn tb len aa) (vl := vln tb len aa vl) (len := len) (tb := tb) (bd := 6) hm_6 hm_8 hm_9 (by omega) htb (by omega) (by omega)) (cwV 2 hts (gV (lwg_of t_942 rfl) (lwg_of t_944 rfl) (lwg_of ts_19 rfl) (lwg_of t_10 rfl) (lwg_of t_945 rfl)) rfl rfl rfl (by decide +kernel) ⟨Nat.le_of_ble_eq_true rfl, Nat.le_of_ble_eq_true rfl⟩) (hI.preV hm_6 rfl) rfl rfl hl.1 rfl (lv_room (Nat.le_of_ble_eq_true rfl)) dX7_readAtom_42 ⟨Nat.le_of_ble_eq_true rfl, Nat.le_of_ble_eq_true rfl⟩) hI (fun r_21 M_23 H_24 locs_25 hp_22 hI => ?_)
        obtain ⟨hr_26, hm_27, hF_28⟩ := hp_22
        have hm_29 : M_23 1 = some (cTape ad len) := by rw [hF_28 1 (by omega)]; exact hm_8
        have hm_30 : M_23 2 = some (aI G 400 (nF tb)) := by rw [hF_28 2 (by omega)]; exact hm_9
        have hm_31 : M_23 k = some (cQuestion ad k qa uv) := by rw [hF_28 k (by omega)]; exact hm_10
        have hm_32 : M_23 (k + 1) = some (aI G 6 (nF kn)) := by rw [hF_28 (k + 1) (by omega)]; exact hm_11
        have hm_33 : M_23 (k + 2) = some (aZ G 6 (bF nt)) := by rw [hF_28 (k + 2) (by omega)]; exact hm_12
        have hm_34 : M_23 (k + 3) = some (aI G 6 (nF pn)) := by rw [hF_28 (k + 3) (by omega)]; exact hm_13
        have hm_35 : M_23 (k + 4) = some (aI G 6 (nF av)) := by rw [hF_28 (k + 4) (by omega)]; exact hm_14
        have hm_36 : M_23 (k + 5) = some (aI G 24 (nF ro)) := by rw [hF_28 (k + 5) (by omega)]; exact hm_15
        have hm_37 : M_23 (k + 6) = some (aI G 24 (nF te)) := by rw [hF_28 (k + 6) (by omega)]; exact hm_16
        have hF_38 : ∀ j : Nat, j ≠ 22 → M_23 j = M j := fun j q0 => (hF_28 j q0).trans (hF_17 j q0)
        rw [hr_26]
        refine lv_if_eq (tgt := 60) hx hb dX7_readAtom_45 (by decide) (fun c_39 => ?_) (fun c_39 => ?_)
        · -- 45: bI (nmb tb len (ps tb len aa) 6) eq
          have c_39 : nmb tb len (ps tb len aa) 6 = false := bI_f (c_39)
          refine lv_iconst (v := nI 0) hx hb dX7_readAtom_60 (by decide) ?_
          subst hQ
          exact e_Ni hx hb hr rfl hlocks hI ⟨false, ps tb len (ps tb len aa), sk tb len (ps tb len aa), tkn tb len (ps tb len aa), vln tb len (ps tb len aa) (vln tb len aa vl), qa, uv, kn, nt, pn, av, ro, te, hm_27, hm_31, hm_32, hm_33, hm_34, hm_35, hm_36, hm_37, (fun j q0 q1 q2 q3 q4 q5 q6 q7 => hF_38 j q0), ⟨rfl, ps_le ple1, Or.inl ⟨rfl, (ra_ff (by assumption)).trans (ra_2 (by assumption) (by assumption))⟩⟩⟩ dX7_readAtom_61
        · -- 45: bI (nmb tb len (ps tb len aa) 6) ne
          have c_39 : nmb tb len (ps tb len aa) 6 = true := bI_t (c_39)
          have hc6 : nmb tb len (ps tb len aa) 6 = true := by assumption
          refine lv_aload_n hx hb dX7_readAtom_48 rfl (lv_at hl 3 rfl) ?_
          refine lv_aload_n hx hb dX7_readAtom_49 rfl (lv_at hl 1 rfl) ?_
          refine h_get (C := RX7) (T := TX7) (N := 4) hx hb hts i_RX7 hown hI hm_27 rfl 3 (by decide) f_38 rfl rfl dX7_readAtom_50 ?_
          refine n_eq (show _ = nI (nmq tb len (ps tb len aa)) from (nmb_val (bd := 6) htb (by decide) (by assumption)).1 _) ?_
          refine lv_iload_n hx hb dX7_readAtom_53 rfl (lv_at hl 0 rfl) ?_
          refine k_Ni (va_runV (As := [.int (nI (nmq tb len (ps tb len aa))), .int (bI false)]) (rest := []) ⟨hx, hb, hml, hown, hts⟩ (c_X6_addAtom l G z ad M_23 (k := k) (aa := qa) (uv := uv) (kn := kn) (nt := nt) (pn := pn) (av := av) (x := nmq tb len (ps tb len aa)) (b := false) hm_31 hm_32 hm_33 hm_34 hm_35 (by omega)) (cwV 2 hts (gV (lwg_of t_946 rfl) (lwg_of t_947 rfl) (lwg_of t_948 rfl) (lwg_of t_12 rfl) (lwg_of t_949 rfl)) rfl rfl rfl (by decide +kernel) ⟨Nat.le_of_ble_eq_true rfl, Nat.le_of_ble_eq_true rfl⟩) (hI.preV hm_31 rfl) rfl rfl hl.1 rfl (lv_room (Nat.le_of_ble_eq_true rfl)) dX7_readAtom_54 ⟨Nat.le_of_ble_eq_true rfl, Nat.le_of_ble_eq_true rfl⟩) hI (fun r_40 M_42 H_43 locs_44 hp_41 hI => ?_)
          obtain ⟨hr_45, hm_46, hm_47, hm_48, hm_49, hm_50, hF_51⟩ := hp_41
          have hm_52 : M_42 22 = some (cReader ad (ps tb len (ps tb len aa)) (sk tb len (ps tb len aa)) (tkn tb len (ps tb len aa)) (vln tb len (ps tb len aa) (vln tb len aa vl))) := by rw [hF_51 22 (by omega) (by omega) (by omega) (by omega) (by omega)]; exact hm_27
          have hm_53 : M_42 1 = some (cTape ad len) := by rw [hF_51 1 (by omega) (by omega) (by omega) (by omega) (by omega)]; exact hm_29
          have hm_54 : M_42 2 = some (aI G 400 (nF tb)) := by rw [hF_51 2 (by omega) (by omega) (by omega) (by omega) (by omega)]; exact hm_30
          have hm_55 : M_42 (k + 5) = some (aI G 24 (nF ro)) := by rw [hF_51 (k + 5) (by omega) (by omega) (by omega) (by omega) (by omega)]; exact hm_36
          have hm_56 : M_42 (k + 6) = some (aI G 24 (nF te)) := by rw [hF_51 (k + 6) (by omega) (by omega) (by omega) (by omega) (by omega)]; exact hm_37
          have hF_57 : ∀ j : Nat, j ≠ 22 → j ≠ k → j ≠ (k + 1) → j ≠ (k + 2) → j ≠ (k + 3) → j ≠ (k + 4) → M_42 j = M j := fun j q0 q1 q2 q3 q4 q5 => (hF_51 j q1 q2 q3 q4 q5).trans (hF_38 j q0)
          rw [hr_45]
          refine lv_if_ne (tgt := 62) hx hb dX7_readAtom_57 (by decide) (fun c_58 => ?_) (fun c_58 => ?_)
          · -- 57: nI 1 ne
            refine lv_aload_n hx hb dX7_readAtom_62 rfl (lv_at hl 1 rfl) ?_
            refine lv_aload_n hx hb dX7_readAtom_63 rfl (lv_at hl 2 rfl) ?_
            refine k_Nv (va_runV (As := [.ref (ad 1)]) (rest := []) ⟨hx, hb, hml, hown, hts⟩ (c_X7_next2 l G z ad M_42 (aa := ps tb len (ps tb len aa)) (bg := sk tb len (ps tb len aa)) (tk := tkn tb len (ps tb len aa)) (vl := vln tb len (ps tb len aa) (vln tb len aa vl)) (len := len) (tb := tb) hm_52 hm_53 hm_54 (by omega) htb (by omega)) (cwV 1 hts (gV (lwg_of t_919 rfl) (lwg_of t_921 rfl) (lwg_of ts_16 rfl) (lwg_of t_10 rfl) (lwg_of t_922 rfl)) rfl rfl rfl (by decide +kernel) ⟨Nat.le_of_ble_eq_true rfl, Nat.le_of_ble_eq_true rfl⟩) (hI.preV hm_52 rfl) rfl rfl hl.1 rfl (lv_room (Nat.le_of_ble_eq_true rfl)) dX7_readAtom_64 ⟨Nat.le_of_ble_eq_true rfl, Nat.le_of_ble_eq_true rfl⟩) hI (fun M_61 H_62 locs_63 hp_60 hI => ?_)
            obtain ⟨hm_64, hF_65⟩ := hp_60
            have hm_66 : M_61 1 = some (cTape ad len) := by rw [hF_65 1 (by omega)]; exact hm_53
            have hm_67 : M_61 2 = some (aI G 400 (nF tb)) := by rw [hF_65 2 (by omega)]; exact hm_54
            have hm_68 : M_61 k = some (cQuestion ad k (qa + 1) uv) := by rw [hF_65 k (by omega)]; exact hm_46
            have hm_69 : M_61 (k + 1) = some (aI G 6 (nF (va_up kn qa (nmq tb len (ps tb len aa))))) := by rw [hF_65 (k + 1) (by omega)]; exact hm_47
            have hm_70 : M_61 (k + 2) = some (aZ G 6 (bF (va_up nt qa false))) := by rw [hF_65 (k + 2) (by omega)]; exact hm_48
            have hm_71 : M_61 (k + 3) = some (aI G 6 (nF (va_up pn qa 0))) := by rw [hF_65 (k + 3) (by omega)]; exact hm_49
            have hm_72 : M_61 (k + 4) = some (aI G 6 (nF (va_up av qa 0))) := by rw [hF_65 (k + 4) (by omega)]; exact hm_50
            have hm_73 : M_61 (k + 5) = some (aI G 24 (nF ro)) := by rw [hF_65 (k + 5) (by omega)]; exact hm_55
            have hm_74 : M_61 (k + 6) = some (aI G 24 (nF te)) := by rw [hF_65 (k + 6) (by omega)]; exact hm_56
            have hF_75 : ∀ j : Nat, j ≠ 22 → j ≠ k → j ≠ (k + 1) → j ≠ (k + 2) → j ≠ (k + 3) → j ≠ (k + 4) → M_61 j = M j := fun j q0 q1 q2 q3 q4 q5 => (hF_65 j q0).trans (hF_57 j q0 q1 q2 q3 q4 q5)
            refine lv_aload_n hx hb dX7_readAtom_67 rfl (lv_at hl 1 rfl) ?_
            refine h_get (C := RX7) (T := TX7) (N := 4) hx hb hts i_RX7 hown hI hm_64 rfl 2 (by decide) f_31 rfl rfl dX7_readAtom_68 ?_
            refine lv_bipush (v := nI 40) hx hb dX7_readAtom_71 (by decide) ?_
            refine lv_icmp_eq (tgt := 78) hx hb dX7_readAtom_73 (by decide) (fun c_76 => ?_) (fun c_76 => ?_)
            · -- 73: (tkn tb len (ps tb len (ps tb len aa))) eq
              have hc40 : tkn tb len (ps tb len (ps tb len aa)) = nI 40 := by assumption
              refine lv_iconst (v := nI 0) hx hb dX7_readAtom_78 (by decide) ?_
              refine lv_istore (lv' := [(4, .int (nI 0)), (3, .int (bI false)), (0, .ref (ad 22)), (1, .ref (ad 1)), (2, .ref (ad k))]) hx hb dX7_readAtom_79 hl (by decide) rfl (fun ls hl => ?_)
              have lp81_77 : ∀ (fuel : Nat) (i : Nat) (p9 : Nat) (gx : Nat) (tkx : Int32) (vlx : Int32) (uvx : Nat) (pnx : Nat → Nat) (avx : Nat → Nat) (rox : Nat → Nat) (tex : Nat → Nat) (Lx : List (Nat × Nat)) (Mx : Mem) (Hx : Heap) (locsx : List Loc) (ls : Array Slot), (4 - i) < fuel → (i ≤ 4) → (p9 ≤ len) → (uvx < 8) → (Lx.length = i) → (ptR pnx avx rox tex qa Lx) → (sameB qa pn av ro te pnx avx rox tex) → (rdParts tb len false 4 (sk tb len (ps tb len (ps tb len aa))) uv (ps tb len (ps tb len (ps tb len aa))) = preR Lx (rdParts tb len false (4 - i) gx uvx p9)) → Iv G z ad Mx s Hx locsx → Mx 22 = some (cReader ad p9 gx tkx vlx) → Mx k = some (cQuestion ad k (qa + 1) uvx) → Mx (k + 1) = some (aI G 6 (nF (va_up kn qa (nmq tb len (ps tb len aa))))) → Mx (k + 2) = some (aZ G 6 (bF (va_up nt qa false))) → Mx (k + 3) = some (aI G 6 (nF pnx)) → Mx (k + 4) = some (aI G 6 (nF avx)) → Mx (k + 5) = some (aI G 24 (nF rox)) → Mx (k + 6) = some (aI G 24 (nF tex)) → (∀ j : Nat, j ≠ 22 → j ≠ k → j ≠ (k + 1) → j ≠ (k + 2) → j ≠ (k + 3) → j ≠ (k + 4) → j ≠ (k + 5) → j ≠ (k + 6) → Mx j = M j) → lv_has ls 5 [(0, .ref (ad 22)), (1, .ref (ad 1)), (2, .ref (ad k)), (3, .int (bI false)), (4, .int (nI i))] → W p l e (headSpec wsX7_readAtom rm_c_X7_readAtom).room s m ([.ref (ad 22), .ref (ad 1), .ref (ad k)] : List Value).toArray below meth c Hx locsx 0 0 Q (F0 m 81 ls []) := by
                intro fuel
                induction fuel with
                | zero => intro i p9 gx tkx vlx uvx pnx avx rox tex Lx Mx Hx locsx ls hfu hi hp9 huvx hLl hpt hsb hrd hI hm_78 hm_79 hm_80 hm_81 hm_82 hm_83 hm_84 hm_85 hF_87 hl; exact absurd hfu (Nat.not_lt_zero _)
                | succ fuel ih_88 =>
                  intro i p9 gx tkx vlx uvx pnx avx rox tex Lx Mx Hx locsx ls hfu hi hp9 huvx hLl hpt hsb hrd hI hm_78 hm_79 hm_80 hm_81 hm_82 hm_83 hm_84 hm_85 hF_87 hl
                  have hm_89 : Mx 1 = some (cTape ad len) := by rw [hF_87 1 (by omega) (by omega) (by omega) (by omega) (by omega) (by omega) (by omega) (by omega)]; exact h1
                  have hm_90 : Mx 2 = some (aI G 400 (nF tb)) := by rw [hF_87 2 (by omega) (by omega) (by omega) (by omega) (by omega) (by omega) (by omega) (by omega)]; exact h2
                  refine lv_iload hx hb dX7_readAtom_81 (lv_at hl 4 rfl) ?_
                  refine lv_iconst (v := nI 4) hx hb dX7_readAtom_83 (by decide) ?_
                  refine lv_icmp_ge (tgt := 133) hx hb dX7_readAtom_84 (by decide) (fun c_91 => ?_) (fun c_91 => ?_)
                  · -- 84: nI i ge
                    have c_91 : 4 ≤ i := (nI_leI (a := 4) (b := i) (by omega) (by omega)).mp (c_91)
                    refine lv_iconst (v := nI 0) hx hb dX7_readAtom_133 (by decide) ?_
                    subst hQ
                    exact e_Ni hx hb hr rfl hlocks hI ⟨false, p9, gx, tkx, vlx, qa + 1, uvx, (va_up kn qa (nmq tb len (ps tb len aa))), (va_up nt qa false), pnx, avx, rox, tex, hm_78, hm_79, hm_80, hm_81, hm_82, hm_83, hm_84, hm_85, (fun j q0 q1 q2 q3 q4 q5 q6 q7 => hF_87 j q0 q1 q2 q3 q4 q5 q6 q7), ⟨rfl, hp9, Or.inl ⟨rfl, (ra_ff (by assumption)).trans (ra_4 hc107 hc6 hc40 (by rw [hrd, show 4 - i = 0 by omega, rdParts]; rfl))⟩⟩⟩ dX7_readAtom_134
                  · -- 84: nI i lt
                    have c_91 : i < 4 := by have h := mt (nI_leI (a := 4) (b := i) (by omega) (by omega)).mpr c_91; omega
                    have hs1 : 4 - i = (4 - (i + 1)) + 1 := by omega
                    have hs2 : 4 - i = (3 - i) + 1 := by omega
                    have hs3 : i + 1 ≤ 4 := by omega
                    refine lv_aload_n hx hb dX7_readAtom_87 rfl (lv_at hl 0 rfl) ?_
                    refine lv_aload_n hx hb dX7_readAtom_88 rfl (lv_at hl 1 rfl) ?_
                    refine lv_aload_n hx hb dX7_readAtom_89 rfl (lv_at hl 2 rfl) ?_
                    refine k_Ni (va_runV (As := [.ref (ad 1), .ref (ad k)]) (rest := []) ⟨hx, hb, hml, hown, hts⟩ (c_X7_readPart l G z ad Mx (aa := p9) (bg := gx) (tk := tkx) (vl := vlx) (len := len) (tb := tb) (k := k) (qa := qa + 1) (uv := uvx) (nt := (va_up nt qa false)) (pn := pnx) (av := avx) (ro := rox) (te := tex) hm_78 hm_89 hm_90 hm_79 hm_81 hm_82 hm_83 hm_84 hm_85 (by omega) htb (by omega) (by omega) ⟨by omega, by omega⟩ (by rw [show qa + 1 - 1 = qa by omega, hpt.1]; omega) huvx (by rw [show qa + 1 - 1 = qa by omega]; exact ptR_av hpt)) (cwV 2 hts (gV (lwg_of t_950 rfl) (lwg_of t_952 rfl) (lwg_of ts_20 rfl) (lwg_of t_10 rfl) (lwg_of t_953 rfl)) rfl rfl rfl (by decide +kernel) ⟨Nat.le_of_ble_eq_true rfl, Nat.le_of_ble_eq_true rfl⟩) (hI.preV hm_78 rfl) rfl rfl hl.1 rfl (lv_room (Nat.le_of_ble_eq_true rfl)) dX7_readAtom_90 ⟨Nat.le_of_ble_eq_true rfl, Nat.le_of_ble_eq_true rfl⟩) hI (fun r_92 M_94 H_95 locs_96 hp_93 hI => ?_)
                    obtain ⟨b2_105, a2_106, g2_107, t2_108, v2_109, uv2_110, pn2_111, av2_112, ro2_113, te2_114, hm_97, hm_98, hm_99, hm_100, hm_101, hm_102, hF_103, hP_104⟩ := hp_93
                    have hm_115 : M_94 1 = some (cTape ad len) := by rw [hF_103 1 (by omega) (by omega) (by omega) (by omega) (by omega) (by omega)]; exact hm_89
                    have hm_116 : M_94 2 = some (aI G 400 (nF tb)) := by rw [hF_103 2 (by omega) (by omega) (by omega) (by omega) (by omega) (by omega)]; exact hm_90
                    have hm_117 : M_94 (k + 1) = some (aI G 6 (nF (va_up kn qa (nmq tb len (ps tb len aa))))) := by rw [hF_103 (k + 1) (by omega) (by omega) (by omega) (by omega) (by omega) (by omega)]; exact hm_80
                    have hm_118 : M_94 (k + 2) = some (aZ G 6 (bF (va_up nt qa false))) := by rw [hF_103 (k + 2) (by omega) (by omega) (by omega) (by omega) (by omega) (by omega)]; exact hm_81
                    have hF_119 : ∀ j : Nat, j ≠ 22 → j ≠ k → j ≠ (k + 1) → j ≠ (k + 2) → j ≠ (k + 3) → j ≠ (k + 4) → j ≠ (k + 5) → j ≠ (k + 6) → M_94 j = M j := fun j q0 q1 q2 q3 q4 q5 q6 q7 => (hF_103 j q0 q1 q4 q5 q6 q7).trans (hF_87 j q0 q1 q2 q3 q4 q5 q6 q7)
                    refine n_eq (show _ = bI b2_105 from hP_104.1) ?_
                    refine lv_if_ne (tgt := 98) hx hb dX7_readAtom_93 (by decide) (fun c_120 => ?_) (fun c_120 => ?_)
                    · -- 93: bI b2_105 ne
                      have c_120 : b2_105 = true := bI_t (c_120)
                      obtain ⟨x9, t9, hrp, hx9, ht9, hu9, hpn9, hav9, hro9, hte9⟩ := (hP_104.2.2.resolve_left (fun h => by rw [h.1] at *; simp_all)).2
                      rw [show qa + 1 - 1 = qa by omega] at hrp hpn9 hav9 hro9 hte9
                      rw [va_up_self] at hrp
                      have ha8 := hP_104.2.1
                      refine lv_aload_n hx hb dX7_readAtom_98 rfl (lv_at hl 0 rfl) ?_
                      refine lv_aload_n hx hb dX7_readAtom_99 rfl (lv_at hl 1 rfl) ?_
                      refine k_Nv (va_runV (As := [.ref (ad 1)]) (rest := []) ⟨hx, hb, hml, hown, hts⟩ (c_X7_next2 l G z ad M_94 (aa := a2_106) (bg := g2_107) (tk := t2_108) (vl := v2_109) (len := len) (tb := tb) hm_97 hm_115 hm_116 (by omega) htb ha8) (cwV 1 hts (gV (lwg_of t_919 rfl) (lwg_of t_921 rfl) (lwg_of ts_16 rfl) (lwg_of t_10 rfl) (lwg_of t_922 rfl)) rfl rfl rfl (by decide +kernel) ⟨Nat.le_of_ble_eq_true rfl, Nat.le_of_ble_eq_true rfl⟩) (hI.preV hm_97 rfl) rfl rfl hl.1 rfl (lv_room (Nat.le_of_ble_eq_true rfl)) dX7_readAtom_100 ⟨Nat.le_of_ble_eq_true rfl, Nat.le_of_ble_eq_true rfl⟩) hI (fun M_123 H_124 locs_125 hp_122 hI => ?_)
                      obtain ⟨hm_126, hF_127⟩ := hp_122
                      have hm_128 : M_123 1 = some (cTape ad len) := by rw [hF_127 1 (by omega)]; exact hm_115
                      have hm_129 : M_123 2 = some (aI G 400 (nF tb)) := by rw [hF_127 2 (by omega)]; exact hm_116
                      have hm_130 : M_123 k = some (cQuestion ad k (qa + 1) uv2_110) := by rw [hF_127 k (by omega)]; exact hm_98
                      have hm_131 : M_123 (k + 1) = some (aI G 6 (nF (va_up kn qa (nmq tb len (ps tb len aa))))) := by rw [hF_127 (k + 1) (by omega)]; exact hm_117
                      have hm_132 : M_123 (k + 2) = some (aZ G 6 (bF (va_up nt qa false))) := by rw [hF_127 (k + 2) (by omega)]; exact hm_118
                      have hm_133 : M_123 (k + 3) = some (aI G 6 (nF pn2_111)) := by rw [hF_127 (k + 3) (by omega)]; exact hm_99
                      have hm_134 : M_123 (k + 4) = some (aI G 6 (nF av2_112)) := by rw [hF_127 (k + 4) (by omega)]; exact hm_100
                      have hm_135 : M_123 (k + 5) = some (aI G 24 (nF ro2_113)) := by rw [hF_127 (k + 5) (by omega)]; exact hm_101
                      have hm_136 : M_123 (k + 6) = some (aI G 24 (nF te2_114)) := by rw [hF_127 (k + 6) (by omega)]; exact hm_102
                      have hF_137 : ∀ j : Nat, j ≠ 22 → j ≠ k → j ≠ (k + 1) → j ≠ (k + 2) → j ≠ (k + 3) → j ≠ (k + 4) → j ≠ (k + 5) → j ≠ (k + 6) → M_123 j = M j := fun j q0 q1 q2 q3 q4 q5 q6 q7 => (hF_127 j q0).trans (hF_119 j q0 q1 q2 q3 q4 q5 q6 q7)
                      refine lv_aload_n hx hb dX7_readAtom_103 rfl (lv_at hl 0 rfl) ?_
                      refine h_get (C := RX7) (T := TX7) (N := 4) hx hb hts i_RX7 hown hI hm_126 rfl 2 (by decide) f_31 rfl rfl dX7_readAtom_104 ?_
                      refine lv_bipush (v := nI 44) hx hb dX7_readAtom_107 (by decide) ?_
                      refine lv_icmp_eq (tgt := 127) hx hb dX7_readAtom_109 (by decide) (fun c_138 => ?_) (fun c_138 => ?_)
                      · -- 109: (tkn tb len a2_106) eq
                        refine lv_iinc (v := nI (i + 1)) (lv' := [(4, .int (nI (i + 1))), (0, .ref (ad 22)), (1, .ref (ad 1)), (2, .ref (ad k)), (3, .int (bI false))]) hx hb dX7_readAtom_127 hl (k := 4) rfl (nI_add i 1) (by decide) rfl (fun ls hl => ?_)
                        refine lv_goto (tgt := 81) hx hb dX7_readAtom_130 (by decide) ?_
                        exact ih_88 (i + 1) (ps tb len a2_106) (sk tb len a2_106) (tkn tb len a2_106) (vln tb len a2_106 v2_109) uv2_110 pn2_111 av2_112 ro2_113 te2_114 (Lx ++ [(x9, t9)]) M_123 H_124 locs_125 ls (by omega) (by omega) (ps_le ha8) (hu9) (by rw [List.length_append, hLl]; rfl) (by rw [hpn9, hav9, hro9, hte9]; exact ptR_add hpt hx9 ht9) (by rw [hpn9, hav9, hro9, hte9]; exact sameB_add hsb) (by rw [hrd, hs1, rdParts_c hrp (by assumption), preR_pre]) hI hm_126 hm_130 hm_131 hm_132 hm_133 hm_134 hm_135 hm_136 (fun j q0 q1 q2 q3 q4 q5 q6 q7 => hF_137 j q0 q1 q2 q3 q4 q5 q6 q7) (lv_sub hl [1, 2, 3, 4, 0] rfl)
                      · -- 109: (tkn tb len a2_106) ne
                        refine lv_aload_n hx hb dX7_readAtom_112 rfl (lv_at hl 0 rfl) ?_
                        refine h_get (C := RX7) (T := TX7) (N := 4) hx hb hts i_RX7 hown hI hm_126 rfl 2 (by decide) f_31 rfl rfl dX7_readAtom_113 ?_
                        refine lv_bipush (v := nI 41) hx hb dX7_readAtom_116 (by decide) ?_
                        refine lv_icmp_ne (tgt := 125) hx hb dX7_readAtom_118 (by decide) (fun c_139 => ?_) (fun c_139 => ?_)
                        · -- 118: (tkn tb len a2_106) ne
                          refine lv_iconst (v := nI 0) hx hb dX7_readAtom_125 (by decide) ?_
                          subst hQ
                          exact e_Ni hx hb hr rfl hlocks hI ⟨false, ps tb len a2_106, sk tb len a2_106, tkn tb len a2_106, vln tb len a2_106 v2_109, (qa + 1), uv2_110, (va_up kn qa (nmq tb len (ps tb len aa))), (va_up nt qa false), pn2_111, av2_112, ro2_113, te2_114, hm_126, hm_130, hm_131, hm_132, hm_133, hm_134, hm_135, hm_136, (fun j q0 q1 q2 q3 q4 q5 q6 q7 => hF_137 j q0 q1 q2 q3 q4 q5 q6 q7), ⟨rfl, ps_le ha8, Or.inl ⟨rfl, (ra_ff (by assumption)).trans (ra_4 hc107 hc6 hc40 (by rw [hrd, hs2, rdParts_n hrp (by assumption) (by assumption)]; rfl))⟩⟩⟩ dX7_readAtom_126
                        · -- 118: (tkn tb len a2_106) eq
                          refine lv_iconst (v := nI 1) hx hb dX7_readAtom_121 (by decide) ?_
                          refine lv_goto (tgt := 126) hx hb dX7_readAtom_122 (by decide) ?_
                          subst hQ
                          exact e_Ni hx hb hr rfl hlocks hI ⟨true, ps tb len a2_106, sk tb len a2_106, tkn tb len a2_106, vln tb len a2_106 v2_109, (qa + 1), uv2_110, (va_up kn qa (nmq tb len (ps tb len aa))), (va_up nt qa false), pn2_111, av2_112, ro2_113, te2_114, hm_126, hm_130, hm_131, hm_132, hm_133, hm_134, hm_135, hm_136, (fun j q0 q1 q2 q3 q4 q5 q6 q7 => hF_137 j q0 q1 q2 q3 q4 q5 q6 q7), ⟨rfl, ps_le ha8, Or.inr ⟨rfl, Lx ++ [(x9, t9)], (by rw [va_up_self, va_up_self]; exact (ra_ff (by assumption)).trans (ra_5 hc107 hc6 hc40 (by rw [hrd, hs2, rdParts_e hrp (by assumption) (by assumption)]; rfl))), hu9, rfl, (by rw [va_up_self]; exact (nmb_val (bd := 6) htb (by decide) hc6).2), (by rw [hpn9, hav9, hro9, hte9]; exact ptR_add hpt hx9 ht9), (by rw [List.length_append, hLl]; exact hs3), (fun j hj => ⟨va_up_ne _ _ (by omega), va_up_ne _ _ (by omega)⟩), (by rw [hpn9, hav9, hro9, hte9]; exact sameB_add hsb)⟩⟩⟩ dX7_readAtom_126
                    · -- 93: bI b2_105 eq
                      have c_120 : b2_105 = false := bI_f (c_120)
                      have hrp := (hP_104.2.2.resolve_right (fun h => by rw [h.1] at *; simp_all)).2.1
                      rw [show qa + 1 - 1 = qa by omega, va_up_self] at hrp
                      have ha8 := hP_104.2.1
                      refine lv_iconst (v := nI 0) hx hb dX7_readAtom_96 (by decide) ?_
                      subst hQ
                      exact e_Ni hx hb hr rfl hlocks hI ⟨false, a2_106, g2_107, t2_108, v2_109, (qa + 1), uv2_110, (va_up kn qa (nmq tb len (ps tb len aa))), (va_up nt qa false), pn2_111, av2_112, ro2_113, te2_114, hm_97, hm_98, hm_117, hm_118, hm_99, hm_100, hm_101, hm_102, (fun j q0 q1 q2 q3 q4 q5 q6 q7 => hF_119 j q0 q1 q2 q3 q4 q5 q6 q7), ⟨rfl, ha8, Or.inl ⟨rfl, (ra_ff (by assumption)).trans (ra_4 hc107 hc6 hc40 (by rw [hrd, hs2, rdParts_f hrp]; rfl))⟩⟩⟩ dX7_readAtom_97
              exact lp81_77 ((4 - 0) + 1) 0 (ps tb len (ps tb len (ps tb len aa))) (sk tb len (ps tb len (ps tb len aa))) (tkn tb len (ps tb len (ps tb len aa))) (vln tb len (ps tb len (ps tb len aa)) (vln tb len (ps tb len aa) (vln tb len aa vl))) uv (va_up pn qa 0) (va_up av qa 0) ro te ([]) M_61 H_62 locs_63 ls (Nat.lt_succ_self _) (by omega) (ps_le (ps_le (ps_le ha9))) (huv) (rfl) (ptR_0) (sameB_new) ((preR_nil _).symm) hI hm_64 hm_68 hm_69 hm_70 hm_71 hm_72 hm_73 hm_74 (fun j q0 q1 q2 q3 q4 q5 q6 q7 => hF_75 j q0 q1 q2 q3 q4 q5) (lv_sub hl [2, 3, 4, 1, 0] rfl)
            · -- 73: (tkn tb len (ps tb len (ps tb len aa))) ne
              refine lv_iconst (v := nI 0) hx hb dX7_readAtom_76 (by decide) ?_
              subst hQ
              exact e_Ni hx hb hr rfl hlocks hI ⟨false, ps tb len (ps tb len (ps tb len aa)), sk tb len (ps tb len (ps tb len aa)), tkn tb len (ps tb len (ps tb len aa)), vln tb len (ps tb len (ps tb len aa)) (vln tb len (ps tb len aa) (vln tb len aa vl)), qa + 1, uv, (va_up kn qa (nmq tb len (ps tb len aa))), (va_up nt qa false), (va_up pn qa 0), (va_up av qa 0), ro, te, hm_64, hm_68, hm_69, hm_70, hm_71, hm_72, hm_73, hm_74, (fun j q0 q1 q2 q3 q4 q5 q6 q7 => hF_75 j q0 q1 q2 q3 q4 q5), ⟨rfl, ps_le (ps_le (ps_le ha9)), Or.inl ⟨rfl, (ra_ff (by assumption)).trans (ra_3 (by assumption) (by assumption) (by assumption))⟩⟩⟩ dX7_readAtom_77
          · -- 57: nI 1 eq
            exact absurd c_58 (by decide)
    · -- 21: bI false ne
      have c_19 : false = true := bI_t (c_19)
      exact absurd (by assumption : false = true) (by decide)
  · -- 11: (tkn tb len aa) eq
    refine lv_iconst (v := nI 1) hx hb dX7_readAtom_14 (by decide) ?_
    refine n_eq (show _ = bI true from rfl) ?_
    refine lv_goto (tgt := 19) hx hb dX7_readAtom_15 (by decide) ?_
    refine lv_istore_n (lv' := [(3, .int (bI true)), (0, .ref (ad 22)), (1, .ref (ad 1)), (2, .ref (ad k))]) hx hb dX7_readAtom_19 rfl hl (by decide) rfl (fun ls hl => ?_)
    refine lv_iload_n hx hb dX7_readAtom_20 rfl (lv_at hl 0 rfl) ?_
    refine lv_if_eq (tgt := 29) hx hb dX7_readAtom_21 (by decide) (fun c_140 => ?_) (fun c_140 => ?_)
    · -- 21: bI true eq
      have c_140 : true = false := bI_f (c_140)
      exact absurd (by assumption : true = false) (by decide)
    · -- 21: bI true ne
      have c_140 : true = true := bI_t (c_140)
      refine lv_aload_n hx hb dX7_readAtom_24 rfl (lv_at hl 1 rfl) ?_
      refine lv_aload_n hx hb dX7_readAtom_25 rfl (lv_at hl 2 rfl) ?_
      refine k_Nv (va_runV (As := [.ref (ad 1)]) (rest := []) ⟨hx, hb, hml, hown, hts⟩ (c_X7_next2 l G z ad M_3 (aa := ps tb len aa) (bg := sk tb len aa) (tk := tkn tb len aa) (vl := vln tb len aa vl) (len := len) (tb := tb) hm_6 hm_8 hm_9 (by omega) htb (by omega)) (cwV 1 hts (gV (lwg_of t_919 rfl) (lwg_of t_921 rfl) (lwg_of ts_16 rfl) (lwg_of t_10 rfl) (lwg_of t_922 rfl)) rfl rfl rfl (by decide +kernel) ⟨Nat.le_of_ble_eq_true rfl, Nat.le_of_ble_eq_true rfl⟩) (hI.preV hm_6 rfl) rfl rfl hl.1 rfl (lv_room (Nat.le_of_ble_eq_true rfl)) dX7_readAtom_26 ⟨Nat.le_of_ble_eq_true rfl, Nat.le_of_ble_eq_true rfl⟩) hI (fun M_143 H_144 locs_145 hp_142 hI => ?_)
      obtain ⟨hm_146, hF_147⟩ := hp_142
      have hm_148 : M_143 1 = some (cTape ad len) := by rw [hF_147 1 (by omega)]; exact hm_8
      have hm_149 : M_143 2 = some (aI G 400 (nF tb)) := by rw [hF_147 2 (by omega)]; exact hm_9
      have hm_150 : M_143 k = some (cQuestion ad k qa uv) := by rw [hF_147 k (by omega)]; exact hm_10
      have hm_151 : M_143 (k + 1) = some (aI G 6 (nF kn)) := by rw [hF_147 (k + 1) (by omega)]; exact hm_11
      have hm_152 : M_143 (k + 2) = some (aZ G 6 (bF nt)) := by rw [hF_147 (k + 2) (by omega)]; exact hm_12
      have hm_153 : M_143 (k + 3) = some (aI G 6 (nF pn)) := by rw [hF_147 (k + 3) (by omega)]; exact hm_13
      have hm_154 : M_143 (k + 4) = some (aI G 6 (nF av)) := by rw [hF_147 (k + 4) (by omega)]; exact hm_14
      have hm_155 : M_143 (k + 5) = some (aI G 24 (nF ro)) := by rw [hF_147 (k + 5) (by omega)]; exact hm_15
      have hm_156 : M_143 (k + 6) = some (aI G 24 (nF te)) := by rw [hF_147 (k + 6) (by omega)]; exact hm_16
      have hF_157 : ∀ j : Nat, j ≠ 22 → M_143 j = M j := fun j q0 => (hF_147 j q0).trans (hF_17 j q0)
      refine lv_aload_n hx hb dX7_readAtom_29 rfl (lv_at hl 1 rfl) ?_
      refine h_get (C := RX7) (T := TX7) (N := 4) hx hb hts i_RX7 hown hI hm_146 rfl 2 (by decide) f_31 rfl rfl dX7_readAtom_30 ?_
      refine lv_bipush (v := nI 107) hx hb dX7_readAtom_33 (by decide) ?_
      refine lv_icmp_ne (tgt := 60) hx hb dX7_readAtom_35 (by decide) (fun c_158 => ?_) (fun c_158 => ?_)
      · -- 35: (tkn tb len (ps tb len aa)) ne
        refine lv_iconst (v := nI 0) hx hb dX7_readAtom_60 (by decide) ?_
        subst hQ
        exact e_Ni hx hb hr rfl hlocks hI ⟨false, ps tb len (ps tb len aa), sk tb len (ps tb len aa), tkn tb len (ps tb len aa), vln tb len (ps tb len aa) (vln tb len aa vl), qa, uv, kn, nt, pn, av, ro, te, hm_146, hm_150, hm_151, hm_152, hm_153, hm_154, hm_155, hm_156, (fun j q0 q1 q2 q3 q4 q5 q6 q7 => hF_157 j q0), ⟨rfl, ple2, Or.inl ⟨rfl, (ra_t (by assumption)).trans (ra_1 (by assumption))⟩⟩⟩ dX7_readAtom_61
      · -- 35: (tkn tb len (ps tb len aa)) eq
        have hc107 : tkn tb len (ps tb len aa) = nI 107 := by assumption
        refine lv_aload_n hx hb dX7_readAtom_38 rfl (lv_at hl 1 rfl) ?_
        refine lv_aload_n hx hb dX7_readAtom_39 rfl (lv_at hl 2 rfl) ?_
        refine lv_bipush (v := nI 6) hx hb dX7_readAtom_40 (by decide) ?_
        refine k_Ni (va_runV (As := [.ref (ad 1), .int (nI 6)]) (rest := []) ⟨hx, hb, hml, hown, hts⟩ (c_X7_readNumber l G z ad M_143 (aa := ps tb len (ps tb len aa)) (bg := sk tb len (ps tb len aa)) (tk := tkn tb len (ps tb len aa)) (vl := vln tb len (ps tb len aa) (vln tb len aa vl)) (len := len) (tb := tb) (bd := 6) hm_146 hm_148 hm_149 (by omega) htb (by omega) (by omega)) (cwV 2 hts (gV (lwg_of t_942 rfl) (lwg_of t_944 rfl) (lwg_of ts_19 rfl) (lwg_of t_10 rfl) (lwg_of t_945 rfl)) rfl rfl rfl (by decide +kernel) ⟨Nat.le_of_ble_eq_true rfl, Nat.le_of_ble_eq_true rfl⟩) (hI.preV hm_146 rfl) rfl rfl hl.1 rfl (lv_room (Nat.le_of_ble_eq_true rfl)) dX7_readAtom_42 ⟨Nat.le_of_ble_eq_true rfl, Nat.le_of_ble_eq_true rfl⟩) hI (fun r_159 M_161 H_162 locs_163 hp_160 hI => ?_)
        obtain ⟨hr_164, hm_165, hF_166⟩ := hp_160
        have hm_167 : M_161 1 = some (cTape ad len) := by rw [hF_166 1 (by omega)]; exact hm_148
        have hm_168 : M_161 2 = some (aI G 400 (nF tb)) := by rw [hF_166 2 (by omega)]; exact hm_149
        have hm_169 : M_161 k = some (cQuestion ad k qa uv) := by rw [hF_166 k (by omega)]; exact hm_150
        have hm_170 : M_161 (k + 1) = some (aI G 6 (nF kn)) := by rw [hF_166 (k + 1) (by omega)]; exact hm_151
        have hm_171 : M_161 (k + 2) = some (aZ G 6 (bF nt)) := by rw [hF_166 (k + 2) (by omega)]; exact hm_152
        have hm_172 : M_161 (k + 3) = some (aI G 6 (nF pn)) := by rw [hF_166 (k + 3) (by omega)]; exact hm_153
        have hm_173 : M_161 (k + 4) = some (aI G 6 (nF av)) := by rw [hF_166 (k + 4) (by omega)]; exact hm_154
        have hm_174 : M_161 (k + 5) = some (aI G 24 (nF ro)) := by rw [hF_166 (k + 5) (by omega)]; exact hm_155
        have hm_175 : M_161 (k + 6) = some (aI G 24 (nF te)) := by rw [hF_166 (k + 6) (by omega)]; exact hm_156
        have hF_176 : ∀ j : Nat, j ≠ 22 → M_161 j = M j := fun j q0 => (hF_166 j q0).trans (hF_157 j q0)
        rw [hr_164]
        refine lv_if_eq (tgt := 60) hx hb dX7_readAtom_45 (by decide) (fun c_177 => ?_) (fun c_177 => ?_)
        · -- 45: bI (nmb tb len (ps tb len (ps tb len aa)) 6) eq
          have c_177 : nmb tb len (ps tb len (ps tb len aa)) 6 = false := bI_f (c_177)
          refine lv_iconst (v := nI 0) hx hb dX7_readAtom_60 (by decide) ?_
          subst hQ
          exact e_Ni hx hb hr rfl hlocks hI ⟨false, ps tb len (ps tb len (ps tb len aa)), sk tb len (ps tb len (ps tb len aa)), tkn tb len (ps tb len (ps tb len aa)), vln tb len (ps tb len (ps tb len aa)) (vln tb len (ps tb len aa) (vln tb len aa vl)), qa, uv, kn, nt, pn, av, ro, te, hm_165, hm_169, hm_170, hm_171, hm_172, hm_173, hm_174, hm_175, (fun j q0 q1 q2 q3 q4 q5 q6 q7 => hF_176 j q0), ⟨rfl, ps_le ple2, Or.inl ⟨rfl, (ra_t (by assumption)).trans (ra_2 (by assumption) (by assumption))⟩⟩⟩ dX7_readAtom_61
        · -- 45: bI (nmb tb len (ps tb len (ps tb len aa)) 6) ne
          have c_177 : nmb tb len (ps tb len (ps tb len aa)) 6 = true := bI_t (c_177)
          have hc6 : nmb tb len (ps tb len (ps tb len aa)) 6 = true := by assumption
          refine lv_aload_n hx hb dX7_readAtom_48 rfl (lv_at hl 3 rfl) ?_
          refine lv_aload_n hx hb dX7_readAtom_49 rfl (lv_at hl 1 rfl) ?_
          refine h_get (C := RX7) (T := TX7) (N := 4) hx hb hts i_RX7 hown hI hm_165 rfl 3 (by decide) f_38 rfl rfl dX7_readAtom_50 ?_
          refine n_eq (show _ = nI (nmq tb len (ps tb len (ps tb len aa))) from (nmb_val (bd := 6) htb (by decide) (by assumption)).1 _) ?_
          refine lv_iload_n hx hb dX7_readAtom_53 rfl (lv_at hl 0 rfl) ?_
          refine k_Ni (va_runV (As := [.int (nI (nmq tb len (ps tb len (ps tb len aa)))), .int (bI true)]) (rest := []) ⟨hx, hb, hml, hown, hts⟩ (c_X6_addAtom l G z ad M_161 (k := k) (aa := qa) (uv := uv) (kn := kn) (nt := nt) (pn := pn) (av := av) (x := nmq tb len (ps tb len (ps tb len aa))) (b := true) hm_169 hm_170 hm_171 hm_172 hm_173 (by omega)) (cwV 2 hts (gV (lwg_of t_946 rfl) (lwg_of t_947 rfl) (lwg_of t_948 rfl) (lwg_of t_12 rfl) (lwg_of t_949 rfl)) rfl rfl rfl (by decide +kernel) ⟨Nat.le_of_ble_eq_true rfl, Nat.le_of_ble_eq_true rfl⟩) (hI.preV hm_169 rfl) rfl rfl hl.1 rfl (lv_room (Nat.le_of_ble_eq_true rfl)) dX7_readAtom_54 ⟨Nat.le_of_ble_eq_true rfl, Nat.le_of_ble_eq_true rfl⟩) hI (fun r_178 M_180 H_181 locs_182 hp_179 hI => ?_)
          obtain ⟨hr_183, hm_184, hm_185, hm_186, hm_187, hm_188, hF_189⟩ := hp_179
          have hm_190 : M_180 22 = some (cReader ad (ps tb len (ps tb len (ps tb len aa))) (sk tb len (ps tb len (ps tb len aa))) (tkn tb len (ps tb len (ps tb len aa))) (vln tb len (ps tb len (ps tb len aa)) (vln tb len (ps tb len aa) (vln tb len aa vl)))) := by rw [hF_189 22 (by omega) (by omega) (by omega) (by omega) (by omega)]; exact hm_165
          have hm_191 : M_180 1 = some (cTape ad len) := by rw [hF_189 1 (by omega) (by omega) (by omega) (by omega) (by omega)]; exact hm_167
          have hm_192 : M_180 2 = some (aI G 400 (nF tb)) := by rw [hF_189 2 (by omega) (by omega) (by omega) (by omega) (by omega)]; exact hm_168
          have hm_193 : M_180 (k + 5) = some (aI G 24 (nF ro)) := by rw [hF_189 (k + 5) (by omega) (by omega) (by omega) (by omega) (by omega)]; exact hm_174
          have hm_194 : M_180 (k + 6) = some (aI G 24 (nF te)) := by rw [hF_189 (k + 6) (by omega) (by omega) (by omega) (by omega) (by omega)]; exact hm_175
          have hF_195 : ∀ j : Nat, j ≠ 22 → j ≠ k → j ≠ (k + 1) → j ≠ (k + 2) → j ≠ (k + 3) → j ≠ (k + 4) → M_180 j = M j := fun j q0 q1 q2 q3 q4 q5 => (hF_189 j q1 q2 q3 q4 q5).trans (hF_176 j q0)
          rw [hr_183]
          refine lv_if_ne (tgt := 62) hx hb dX7_readAtom_57 (by decide) (fun c_196 => ?_) (fun c_196 => ?_)
          · -- 57: nI 1 ne
            refine lv_aload_n hx hb dX7_readAtom_62 rfl (lv_at hl 1 rfl) ?_
            refine lv_aload_n hx hb dX7_readAtom_63 rfl (lv_at hl 2 rfl) ?_
            refine k_Nv (va_runV (As := [.ref (ad 1)]) (rest := []) ⟨hx, hb, hml, hown, hts⟩ (c_X7_next2 l G z ad M_180 (aa := ps tb len (ps tb len (ps tb len aa))) (bg := sk tb len (ps tb len (ps tb len aa))) (tk := tkn tb len (ps tb len (ps tb len aa))) (vl := vln tb len (ps tb len (ps tb len aa)) (vln tb len (ps tb len aa) (vln tb len aa vl))) (len := len) (tb := tb) hm_190 hm_191 hm_192 (by omega) htb (by omega)) (cwV 1 hts (gV (lwg_of t_919 rfl) (lwg_of t_921 rfl) (lwg_of ts_16 rfl) (lwg_of t_10 rfl) (lwg_of t_922 rfl)) rfl rfl rfl (by decide +kernel) ⟨Nat.le_of_ble_eq_true rfl, Nat.le_of_ble_eq_true rfl⟩) (hI.preV hm_190 rfl) rfl rfl hl.1 rfl (lv_room (Nat.le_of_ble_eq_true rfl)) dX7_readAtom_64 ⟨Nat.le_of_ble_eq_true rfl, Nat.le_of_ble_eq_true rfl⟩) hI (fun M_199 H_200 locs_201 hp_198 hI => ?_)
            obtain ⟨hm_202, hF_203⟩ := hp_198
            have hm_204 : M_199 1 = some (cTape ad len) := by rw [hF_203 1 (by omega)]; exact hm_191
            have hm_205 : M_199 2 = some (aI G 400 (nF tb)) := by rw [hF_203 2 (by omega)]; exact hm_192
            have hm_206 : M_199 k = some (cQuestion ad k (qa + 1) uv) := by rw [hF_203 k (by omega)]; exact hm_184
            have hm_207 : M_199 (k + 1) = some (aI G 6 (nF (va_up kn qa (nmq tb len (ps tb len (ps tb len aa)))))) := by rw [hF_203 (k + 1) (by omega)]; exact hm_185
            have hm_208 : M_199 (k + 2) = some (aZ G 6 (bF (va_up nt qa true))) := by rw [hF_203 (k + 2) (by omega)]; exact hm_186
            have hm_209 : M_199 (k + 3) = some (aI G 6 (nF (va_up pn qa 0))) := by rw [hF_203 (k + 3) (by omega)]; exact hm_187
            have hm_210 : M_199 (k + 4) = some (aI G 6 (nF (va_up av qa 0))) := by rw [hF_203 (k + 4) (by omega)]; exact hm_188
            have hm_211 : M_199 (k + 5) = some (aI G 24 (nF ro)) := by rw [hF_203 (k + 5) (by omega)]; exact hm_193
            have hm_212 : M_199 (k + 6) = some (aI G 24 (nF te)) := by rw [hF_203 (k + 6) (by omega)]; exact hm_194
            have hF_213 : ∀ j : Nat, j ≠ 22 → j ≠ k → j ≠ (k + 1) → j ≠ (k + 2) → j ≠ (k + 3) → j ≠ (k + 4) → M_199 j = M j := fun j q0 q1 q2 q3 q4 q5 => (hF_203 j q0).trans (hF_195 j q0 q1 q2 q3 q4 q5)
            refine lv_aload_n hx hb dX7_readAtom_67 rfl (lv_at hl 1 rfl) ?_
            refine h_get (C := RX7) (T := TX7) (N := 4) hx hb hts i_RX7 hown hI hm_202 rfl 2 (by decide) f_31 rfl rfl dX7_readAtom_68 ?_
            refine lv_bipush (v := nI 40) hx hb dX7_readAtom_71 (by decide) ?_
            refine lv_icmp_eq (tgt := 78) hx hb dX7_readAtom_73 (by decide) (fun c_214 => ?_) (fun c_214 => ?_)
            · -- 73: (tkn tb len (ps tb len (ps tb len (ps tb len aa)))) eq
              have hc40 : tkn tb len (ps tb len (ps tb len (ps tb len aa))) = nI 40 := by assumption
              refine lv_iconst (v := nI 0) hx hb dX7_readAtom_78 (by decide) ?_
              refine lv_istore (lv' := [(4, .int (nI 0)), (3, .int (bI true)), (0, .ref (ad 22)), (1, .ref (ad 1)), (2, .ref (ad k))]) hx hb dX7_readAtom_79 hl (by decide) rfl (fun ls hl => ?_)
              have lp81_215 : ∀ (fuel : Nat) (i : Nat) (p9 : Nat) (gx : Nat) (tkx : Int32) (vlx : Int32) (uvx : Nat) (pnx : Nat → Nat) (avx : Nat → Nat) (rox : Nat → Nat) (tex : Nat → Nat) (Lx : List (Nat × Nat)) (Mx : Mem) (Hx : Heap) (locsx : List Loc) (ls : Array Slot), (4 - i) < fuel → (i ≤ 4) → (p9 ≤ len) → (uvx < 8) → (Lx.length = i) → (ptR pnx avx rox tex qa Lx) → (sameB qa pn av ro te pnx avx rox tex) → (rdParts tb len true 4 (sk tb len (ps tb len (ps tb len (ps tb len aa)))) uv (ps tb len (ps tb len (ps tb len (ps tb len aa)))) = preR Lx (rdParts tb len true (4 - i) gx uvx p9)) → Iv G z ad Mx s Hx locsx → Mx 22 = some (cReader ad p9 gx tkx vlx) → Mx k = some (cQuestion ad k (qa + 1) uvx) → Mx (k + 1) = some (aI G 6 (nF (va_up kn qa (nmq tb len (ps tb len (ps tb len aa)))))) → Mx (k + 2) = some (aZ G 6 (bF (va_up nt qa true))) → Mx (k + 3) = some (aI G 6 (nF pnx)) → Mx (k + 4) = some (aI G 6 (nF avx)) → Mx (k + 5) = some (aI G 24 (nF rox)) → Mx (k + 6) = some (aI G 24 (nF tex)) → (∀ j : Nat, j ≠ 22 → j ≠ k → j ≠ (k + 1) → j ≠ (k + 2) → j ≠ (k + 3) → j ≠ (k + 4) → j ≠ (k + 5) → j ≠ (k + 6) → Mx j = M j) → lv_has ls 5 [(0, .ref (ad 22)), (1, .ref (ad 1)), (2, .ref (ad k)), (3, .int (bI true)), (4, .int (nI i))] → W p l e (headSpec wsX7_readAtom rm_c_X7_readAtom).room s m ([.ref (ad 22), .ref (ad 1), .ref (ad k)] : List Value).toArray below meth c Hx locsx 0 0 Q (F0 m 81 ls []) := by
                intro fuel
                induction fuel with
                | zero => intro i p9 gx tkx vlx uvx pnx avx rox tex Lx Mx Hx locsx ls hfu hi hp9 huvx hLl hpt hsb hrd hI hm_216 hm_217 hm_218 hm_219 hm_220 hm_221 hm_222 hm_223 hF_225 hl; exact absurd hfu (Nat.not_lt_zero _)
                | succ fuel ih_226 =>
                  intro i p9 gx tkx vlx uvx pnx avx rox tex Lx Mx Hx locsx ls hfu hi hp9 huvx hLl hpt hsb hrd hI hm_216 hm_217 hm_218 hm_219 hm_220 hm_221 hm_222 hm_223 hF_225 hl
                  have hm_227 : Mx 1 = some (cTape ad len) := by rw [hF_225 1 (by omega) (by omega) (by omega) (by omega) (by omega) (by omega) (by omega) (by omega)]; exact h1
                  have hm_228 : Mx 2 = some (aI G 400 (nF tb)) := by rw [hF_225 2 (by omega) (by omega) (by omega) (by omega) (by omega) (by omega) (by omega) (by omega)]; exact h2
                  refine lv_iload hx hb dX7_readAtom_81 (lv_at hl 4 rfl) ?_
                  refine lv_iconst (v := nI 4) hx hb dX7_readAtom_83 (by decide) ?_
                  refine lv_icmp_ge (tgt := 133) hx hb dX7_readAtom_84 (by decide) (fun c_229 => ?_) (fun c_229 => ?_)
                  · -- 84: nI i ge
                    have c_229 : 4 ≤ i := (nI_leI (a := 4) (b := i) (by omega) (by omega)).mp (c_229)
                    refine lv_iconst (v := nI 0) hx hb dX7_readAtom_133 (by decide) ?_
                    subst hQ
                    exact e_Ni hx hb hr rfl hlocks hI ⟨false, p9, gx, tkx, vlx, qa + 1, uvx, (va_up kn qa (nmq tb len (ps tb len (ps tb len aa)))), (va_up nt qa true), pnx, avx, rox, tex, hm_216, hm_217, hm_218, hm_219, hm_220, hm_221, hm_222, hm_223, (fun j q0 q1 q2 q3 q4 q5 q6 q7 => hF_225 j q0 q1 q2 q3 q4 q5 q6 q7), ⟨rfl, hp9, Or.inl ⟨rfl, (ra_t (by assumption)).trans (ra_4 hc107 hc6 hc40 (by rw [hrd, show 4 - i = 0 by omega, rdParts]; rfl))⟩⟩⟩ dX7_readAtom_134
                  · -- 84: nI i lt
                    have c_229 : i < 4 := by have h := mt (nI_leI (a := 4) (b := i) (by omega) (by omega)).mpr c_229; omega
                    have hs1 : 4 - i = (4 - (i + 1)) + 1 := by omega
                    have hs2 : 4 - i = (3 - i) + 1 := by omega
                    have hs3 : i + 1 ≤ 4 := by omega
                    refine lv_aload_n hx hb dX7_readAtom_87 rfl (lv_at hl 0 rfl) ?_
                    refine lv_aload_n hx hb dX7_readAtom_88 rfl (lv_at hl 1 rfl) ?_
                    refine lv_aload_n hx hb dX7_readAtom_89 rfl (lv_at hl 2 rfl) ?_
                    refine k_Ni (va_runV (As := [.ref (ad 1), .ref (ad k)]) (rest := []) ⟨hx, hb, hml, hown, hts⟩ (c_X7_readPart l G z ad Mx (aa := p9) (bg := gx) (tk := tkx) (vl := vlx) (len := len) (tb := tb) (k := k) (qa := qa + 1) (uv := uvx) (nt := (va_up nt qa true)) (pn := pnx) (av := avx) (ro := rox) (te := tex) hm_216 hm_227 hm_228 hm_217 hm_219 hm_220 hm_221 hm_222 hm_223 (by omega) htb (by omega) (by omega) ⟨by omega, by omega⟩ (by rw [show qa + 1 - 1 = qa by omega, hpt.1]; omega) huvx (by rw [show qa + 1 - 1 = qa by omega]; exact ptR_av hpt)) (cwV 2 hts (gV (lwg_of t_950 rfl) (lwg_of t_952 rfl) (lwg_of ts_20 rfl) (lwg_of t_10 rfl) (lwg_of t_953 rfl)) rfl rfl rfl (by decide +kernel) ⟨Nat.le_of_ble_eq_true rfl, Nat.le_of_ble_eq_true rfl⟩) (hI.preV hm_216 rfl) rfl rfl hl.1 rfl (lv_room (Nat.le_of_ble_eq_true rfl)) dX7_readAtom_90 ⟨Nat.le_of_ble_eq_true rfl, Nat.le_of_ble_eq_true rfl⟩) hI (fun r_230 M_232 H_233 locs_234 hp_231 hI => ?_)
                    obtain ⟨b2_243, a2_244, g2_245, t2_246, v2_247, uv2_248, pn2_249, av2_250, ro2_251, te2_252, hm_235, hm_236, hm_237, hm_238, hm_239, hm_240, hF_241, hP_242⟩ := hp_231
                    have hm_253 : M_232 1 = some (cTape ad len) := by rw [hF_241 1 (by omega) (by omega) (by omega) (by omega) (by omega) (by omega)]; exact hm_227
                    have hm_254 : M_232 2 = some (aI G 400 (nF tb)) := by rw [hF_241 2 (by omega) (by omega) (by omega) (by omega) (by omega) (by omega)]; exact hm_228
                    have hm_255 : M_232 (k + 1) = some (aI G 6 (nF (va_up kn qa (nmq tb len (ps tb len (ps tb len aa)))))) := by rw [hF_241 (k + 1) (by omega) (by omega) (by omega) (by omega) (by omega) (by omega)]; exact hm_218
                    have hm_256 : M_232 (k + 2) = some (aZ G 6 (bF (va_up nt qa true))) := by rw [hF_241 (k + 2) (by omega) (by omega) (by omega) (by omega) (by omega) (by omega)]; exact hm_219
                    have hF_257 : ∀ j : Nat, j ≠ 22 → j ≠ k → j ≠ (k + 1) → j ≠ (k + 2) → j ≠ (k + 3) → j ≠ (k + 4) → j ≠ (k + 5) → j ≠ (k + 6) → M_232 j = M j := fun j q0 q1 q2 q3 q4 q5 q6 q7 => (hF_241 j q0 q1 q4 q5 q6 q7).trans (hF_225 j q0 q1 q2 q3 q4 q5 q6 q7)
                    refine n_eq (show _ = bI b2_243 from hP_242.1) ?_
                    refine lv_if_ne (tgt := 98) hx hb dX7_readAtom_93 (by decide) (fun c_258 => ?_) (fun c_258 => ?_)
                    · -- 93: bI b2_243 ne
                      have c_258 : b2_243 = true := bI_t (c_258)
                      obtain ⟨x9, t9, hrp, hx9, ht9, hu9, hpn9, hav9, hro9, hte9⟩ := (hP_242.2.2.resolve_left (fun h => by rw [h.1] at *; simp_all)).2
                      rw [show qa + 1 - 1 = qa by omega] at hrp hpn9 hav9 hro9 hte9
                      rw [va_up_self] at hrp
                      have ha8 := hP_242.2.1
                      refine lv_aload_n hx hb dX7_readAtom_98 rfl (lv_at hl 0 rfl) ?_
                      refine lv_aload_n hx hb dX7_readAtom_99 rfl (lv_at hl 1 rfl) ?_
                      refine k_Nv (va_runV (As := [.ref (ad 1)]) (rest := []) ⟨hx, hb, hml, hown, hts⟩ (c_X7_next2 l G z ad M_232 (aa := a2_244) (bg := g2_245) (tk := t2_246) (vl := v2_247) (len := len) (tb := tb) hm_235 hm_253 hm_254 (by omega) htb ha8) (cwV 1 hts (gV (lwg_of t_919 rfl) (lwg_of t_921 rfl) (lwg_of ts_16 rfl) (lwg_of t_10 rfl) (lwg_of t_922 rfl)) rfl rfl rfl (by decide +kernel) ⟨Nat.le_of_ble_eq_true rfl, Nat.le_of_ble_eq_true rfl⟩) (hI.preV hm_235 rfl) rfl rfl hl.1 rfl (lv_room (Nat.le_of_ble_eq_true rfl)) dX7_readAtom_100 ⟨Nat.le_of_ble_eq_true rfl, Nat.le_of_ble_eq_true rfl⟩) hI (fun M_261 H_262 locs_263 hp_260 hI => ?_)
                      obtain ⟨hm_264, hF_265⟩ := hp_260
                      have hm_266 : M_261 1 = some (cTape ad len) := by rw [hF_265 1 (by omega)]; exact hm_253
                      have hm_267 : M_261 2 = some (aI G 400 (nF tb)) := by rw [hF_265 2 (by omega)]; exact hm_254
                      have hm_268 : M_261 k = some (cQuestion ad k (qa + 1) uv2_248) := by rw [hF_265 k (by omega)]; exact hm_236
                      have hm_269 : M_261 (k + 1) = some (aI G 6 (nF (va_up kn qa (nmq tb len (ps tb len (ps tb len aa)))))) := by rw [hF_265 (k + 1) (by omega)]; exact hm_255
                      have hm_270 : M_261 (k + 2) = some (aZ G 6 (bF (va_up nt qa true))) := by rw [hF_265 (k + 2) (by omega)]; exact hm_256
                      have hm_271 : M_261 (k + 3) = some (aI G 6 (nF pn2_249)) := by rw [hF_265 (k + 3) (by omega)]; exact hm_237
                      have hm_272 : M_261 (k + 4) = some (aI G 6 (nF av2_250)) := by rw [hF_265 (k + 4) (by omega)]; exact hm_238
                      have hm_273 : M_261 (k + 5) = some (aI G 24 (nF ro2_251)) := by rw [hF_265 (k + 5) (by omega)]; exact hm_239
                      have hm_274 : M_261 (k + 6) = some (aI G 24 (nF te2_252)) := by rw [hF_265 (k + 6) (by omega)]; exact hm_240
                      have hF_275 : ∀ j : Nat, j ≠ 22 → j ≠ k → j ≠ (k + 1) → j ≠ (k + 2) → j ≠ (k + 3) → j ≠ (k + 4) → j ≠ (k + 5) → j ≠ (k + 6) → M_261 j = M j := fun j q0 q1 q2 q3 q4 q5 q6 q7 => (hF_265 j q0).trans (hF_257 j q0 q1 q2 q3 q4 q5 q6 q7)
                      refine lv_aload_n hx hb dX7_readAtom_103 rfl (lv_at hl 0 rfl) ?_
                      refine h_get (C := RX7) (T := TX7) (N := 4) hx hb hts i_RX7 hown hI hm_264 rfl 2 (by decide) f_31 rfl rfl dX7_readAtom_104 ?_
                      refine lv_bipush (v := nI 44) hx hb dX7_readAtom_107 (by decide) ?_
                      refine lv_icmp_eq (tgt := 127) hx hb dX7_readAtom_109 (by decide) (fun c_276 => ?_) (fun c_276 => ?_)
                      · -- 109: (tkn tb len a2_244) eq
                        refine lv_iinc (v := nI (i + 1)) (lv' := [(4, .int (nI (i + 1))), (0, .ref (ad 22)), (1, .ref (ad 1)), (2, .ref (ad k)), (3, .int (bI true))]) hx hb dX7_readAtom_127 hl (k := 4) rfl (nI_add i 1) (by decide) rfl (fun ls hl => ?_)
                        refine lv_goto (tgt := 81) hx hb dX7_readAtom_130 (by decide) ?_
                        exact ih_226 (i + 1) (ps tb len a2_244) (sk tb len a2_244) (tkn tb len a2_244) (vln tb len a2_244 v2_247) uv2_248 pn2_249 av2_250 ro2_251 te2_252 (Lx ++ [(x9, t9)]) M_261 H_262 locs_263 ls (by omega) (by omega) (ps_le ha8) (hu9) (by rw [List.length_append, hLl]; rfl) (by rw [hpn9, hav9, hro9, hte9]; exact ptR_add hpt hx9 ht9) (by rw [hpn9, hav9, hro9, hte9]; exact sameB_add hsb) (by rw [hrd, hs1, rdParts_c hrp (by assumption), preR_pre]) hI hm_264 hm_268 hm_269 hm_270 hm_271 hm_272 hm_273 hm_274 (fun j q0 q1 q2 q3 q4 q5 q6 q7 => hF_275 j q0 q1 q2 q3 q4 q5 q6 q7) (lv_sub hl [1, 2, 3, 4, 0] rfl)
                      · -- 109: (tkn tb len a2_244) ne
                        refine lv_aload_n hx hb dX7_readAtom_112 rfl (lv_at hl 0 rfl) ?_
                        refine h_get (C := RX7) (T := TX7) (N := 4) hx hb hts i_RX7 hown hI hm_264 rfl 2 (by decide) f_31 rfl rfl dX7_readAtom_113 ?_
                        refine lv_bipush (v := nI 41) hx hb dX7_readAtom_116 (by decide) ?_
                        refine lv_icmp_ne (tgt := 125) hx hb dX7_readAtom_118 (by decide) (fun c_277 => ?_) (fun c_277 => ?_)
                        · -- 118: (tkn tb len a2_244) ne
                          refine lv_iconst (v := nI 0) hx hb dX7_readAtom_125 (by decide) ?_
                          subst hQ
                          exact e_Ni hx hb hr rfl hlocks hI ⟨false, ps tb len a2_244, sk tb len a2_244, tkn tb len a2_244, vln tb len a2_244 v2_247, (qa + 1), uv2_248, (va_up kn qa (nmq tb len (ps tb len (ps tb len aa)))), (va_up nt qa true), pn2_249, av2_250, ro2_251, te2_252, hm_264, hm_268, hm_269, hm_270, hm_271, hm_272, hm_273, hm_274, (fun j q0 q1 q2 q3 q4 q5 q6 q7 => hF_275 j q0 q1 q2 q3 q4 q5 q6 q7), ⟨rfl, ps_le ha8, Or.inl ⟨rfl, (ra_t (by assumption)).trans (ra_4 hc107 hc6 hc40 (by rw [hrd, hs2, rdParts_n hrp (by assumption) (by assumption)]; rfl))⟩⟩⟩ dX7_readAtom_126
                        · -- 118: (tkn tb len a2_244) eq
                          refine lv_iconst (v := nI 1) hx hb dX7_readAtom_121 (by decide) ?_
                          refine lv_goto (tgt := 126) hx hb dX7_readAtom_122 (by decide) ?_
                          subst hQ
                          exact e_Ni hx hb hr rfl hlocks hI ⟨true, ps tb len a2_244, sk tb len a2_244, tkn tb len a2_244, vln tb len a2_244 v2_247, (qa + 1), uv2_248, (va_up kn qa (nmq tb len (ps tb len (ps tb len aa)))), (va_up nt qa true), pn2_249, av2_250, ro2_251, te2_252, hm_264, hm_268, hm_269, hm_270, hm_271, hm_272, hm_273, hm_274, (fun j q0 q1 q2 q3 q4 q5 q6 q7 => hF_275 j q0 q1 q2 q3 q4 q5 q6 q7), ⟨rfl, ps_le ha8, Or.inr ⟨rfl, Lx ++ [(x9, t9)], (by rw [va_up_self, va_up_self]; exact (ra_t (by assumption)).trans (ra_5 hc107 hc6 hc40 (by rw [hrd, hs2, rdParts_e hrp (by assumption) (by assumption)]; rfl))), hu9, rfl, (by rw [va_up_self]; exact (nmb_val (bd := 6) htb (by decide) hc6).2), (by rw [hpn9, hav9, hro9, hte9]; exact ptR_add hpt hx9 ht9), (by rw [List.length_append, hLl]; exact hs3), (fun j hj => ⟨va_up_ne _ _ (by omega), va_up_ne _ _ (by omega)⟩), (by rw [hpn9, hav9, hro9, hte9]; exact sameB_add hsb)⟩⟩⟩ dX7_readAtom_126
                    · -- 93: bI b2_243 eq
                      have c_258 : b2_243 = false := bI_f (c_258)
                      have hrp := (hP_242.2.2.resolve_right (fun h => by rw [h.1] at *; simp_all)).2.1
                      rw [show qa + 1 - 1 = qa by omega, va_up_self] at hrp
                      have ha8 := hP_242.2.1
                      refine lv_iconst (v := nI 0) hx hb dX7_readAtom_96 (by decide) ?_
                      subst hQ
                      exact e_Ni hx hb hr rfl hlocks hI ⟨false, a2_244, g2_245, t2_246, v2_247, (qa + 1), uv2_248, (va_up kn qa (nmq tb len (ps tb len (ps tb len aa)))), (va_up nt qa true), pn2_249, av2_250, ro2_251, te2_252, hm_235, hm_236, hm_255, hm_256, hm_237, hm_238, hm_239, hm_240, (fun j q0 q1 q2 q3 q4 q5 q6 q7 => hF_257 j q0 q1 q2 q3 q4 q5 q6 q7), ⟨rfl, ha8, Or.inl ⟨rfl, (ra_t (by assumption)).trans (ra_4 hc107 hc6 hc40 (by rw [hrd, hs2, rdParts_f hrp]; rfl))⟩⟩⟩ dX7_readAtom_97
              exact lp81_215 ((4 - 0) + 1) 0 (ps tb len (ps tb len (ps tb len (ps tb len aa)))) (sk tb len (ps tb len (ps tb len (ps tb len aa)))) (tkn tb len (ps tb len (ps tb len (ps tb len aa)))) (vln tb len (ps tb len (ps tb len (ps tb len aa))) (vln tb len (ps tb len (ps tb len aa)) (vln tb len (ps tb len aa) (vln tb len aa vl)))) uv (va_up pn qa 0) (va_up av qa 0) ro te ([]) M_199 H_200 locs_201 ls (Nat.lt_succ_self _) (by omega) (ps_le (ps_le (ps_le ple1))) (huv) (rfl) (ptR_0) (sameB_new) ((preR_nil _).symm) hI hm_202 hm_206 hm_207 hm_208 hm_209 hm_210 hm_211 hm_212 (fun j q0 q1 q2 q3 q4 q5 q6 q7 => hF_213 j q0 q1 q2 q3 q4 q5) (lv_sub hl [2, 3, 4, 1, 0] rfl)
            · -- 73: (tkn tb len (ps tb len (ps tb len (ps tb len aa)))) ne
              refine lv_iconst (v := nI 0) hx hb dX7_readAtom_76 (by decide) ?_
              subst hQ
              exact e_Ni hx hb hr rfl hlocks hI ⟨false, ps tb len (ps tb len (ps tb len (ps tb len aa))), sk tb len (ps tb len (ps tb len (ps tb len aa))), tkn tb len (ps tb len (ps tb len (ps tb len aa))), vln tb len (ps tb len (ps tb len (ps tb len aa))) (vln tb len (ps tb len (ps tb len aa)) (vln tb len (ps tb len aa) (vln tb len aa vl))), qa + 1, uv, (va_up kn qa (nmq tb len (ps tb len (ps tb len aa)))), (va_up nt qa true), (va_up pn qa 0), (va_up av qa 0), ro, te, hm_202, hm_206, hm_207, hm_208, hm_209, hm_210, hm_211, hm_212, (fun j q0 q1 q2 q3 q4 q5 q6 q7 => hF_213 j q0 q1 q2 q3 q4 q5), ⟨rfl, ps_le (ps_le (ps_le ple1)), Or.inl ⟨rfl, (ra_t (by assumption)).trans (ra_3 (by assumption) (by assumption) (by assumption))⟩⟩⟩ dX7_readAtom_77
          · -- 57: nI 1 eq
            exact absurd c_196 (by decide)
