/-- a part: where it is wrong, or where it ends, its role, its term, the variables then -/
def rdPart (tb : Nat → Nat) (len : Nat) (nt : Bool) (uv p : Nat) : Nat ⊕ (Nat × Nat × Nat × Nat) :=
  if ¬ tkn tb len p = nI 114 then .inl (sk tb len p)
  else if nmb tb len (ps tb len p) 6 = false then .inl (sk tb len (ps tb len p))
  else if tkn tb len (ps tb len (ps tb len p)) = nI 116 then
    (if nmb tb len (ps tb len (ps tb len (ps tb len p))) 40 = true then .inr (ps tb len (ps tb len (ps tb len (ps tb len p))), nmq tb len (ps tb len p), nmq tb len (ps tb len (ps tb len (ps tb len p))), uv) else .inl (sk tb len (ps tb len (ps tb len (ps tb len p)))))
  else if tkn tb len (ps tb len (ps tb len p)) < nI 97 ∨ ¬ tkn tb len (ps tb len (ps tb len p)) < nI 100 then .inl (sk tb len (ps tb len (ps tb len p)))
  else if nt = true ∧ uv.testBit ((tkn tb len (ps tb len (ps tb len p))).toNatClampNeg - 97) = false then .inl (sk tb len (ps tb len (ps tb len p)))
  else .inr (ps tb len (ps tb len (ps tb len p)), nmq tb len (ps tb len p), 40 + ((tkn tb len (ps tb len (ps tb len p))).toNatClampNeg - 97), uv ||| 2 ^ ((tkn tb len (ps tb len (ps tb len p))).toNatClampNeg - 97))
/-- the bit of a term's variable -/
def vb (t : Nat) : Nat := if t < 40 then 0 else 2 ^ (t - 40)
theorem vb_t {t : Nat} (h : t < 40) : vb t = 0 := if_pos h
theorem vb_v (v : Nat) : vb (40 + v) = 2 ^ v := by rw [vb, if_neg (by omega), show 40 + v - 40 = v by omega]
theorem var_of {x : Int32} (h1 : ¬ x < nI 97) (h2 : x < nI 100) : ∃ v, v < 3 ∧ x = nI (97 + v) := by
  rw [Int32.lt_iff_toInt_lt, nI_toInt (by decide)] at h1 h2
  obtain ⟨j, hj, rfl⟩ := nI_of (x := x) (by rw [Int32.lt_iff_toInt_lt]; have h0 : (0 : Int32).toInt = 0 := (by decide); omega)
  rw [nI_toInt hj] at h1 h2
  exact ⟨j - 97, by omega, by rw [show 97 + (j - 97) = j by omega]⟩
theorem va_same (f : Nat → Nat) (k : Nat) : va_up f k (f k ||| 0) = f := by
  funext j
  by_cases h : j = k
  · subst h; rw [va_up_self, Nat.or_zero]
  · rw [va_up_ne _ _ h]

/-- X7_readPart -/
abbrev rm_c_X7_readPart : Room := { frames := 4, cells := 0, slots := 0, locals := 86 }
set_option maxHeartbeats 4000000 in
set_option maxRecDepth 100000 in
theorem c_X7_readPart (l : Launch) (G : GG) (z : Nat) (ad : Nat → Nat) (M : Mem) {aa : Nat} {bg : Nat} {tk : Int32} {vl : Int32} {len : Nat} {tb : Nat → Nat} {k : Nat} {qa : Nat} {uv : Nat} {nt : Nat → Bool} {pn : Nat → Nat} {av : Nat → Nat} {ro : Nat → Nat} {te : Nat → Nat} (h22 : M 22 = some (cReader ad aa bg tk vl)) (h1 : M 1 = some (cTape ad len)) (h2 : M 2 = some (aI G 400 (nF tb))) (hk : M k = some (cQuestion ad k qa uv)) (q2 : M (k + 2) = some (aZ G 6 (bF nt))) (q3 : M (k + 3) = some (aI G 6 (nF pn))) (q4 : M (k + 4) = some (aI G 6 (nF av))) (q5 : M (k + 5) = some (aI G 24 (nF ro))) (q6 : M (k + 6) = some (aI G 24 (nF te))) (hl4 : len ≤ 400) (htb : ∀ j, j < len → tb j < 256) (ha9 : aa ≤ len) (hk9 : 30 ≤ k ∧ k ≤ 44) (hqa : 0 < qa ∧ qa ≤ 6) (hpn : pn (qa - 1) < 4) (huv : uv < 8) (hav : av (qa - 1) < 8) : Met l yX7_readPart wsX7_readPart rm_c_X7_readPart (Pr G z ad M [.ref (ad 22), .ref (ad 1), .ref (ad k)]) (Ni G z ad (fun (r : Int32) (M' : Mem) => ∃ b2 : Bool, ∃ a2 : Nat, ∃ g2 : Nat, ∃ t2 : Int32, ∃ v2 : Int32, ∃ uv2 : Nat, ∃ pn2 : Nat → Nat, ∃ av2 : Nat → Nat, ∃ ro2 : Nat → Nat, ∃ te2 : Nat → Nat, M' 22 = some (cReader ad a2 g2 t2 v2) ∧ M' k = some (cQuestion ad k qa uv2) ∧ M' (k + 3) = some (aI G 6 (nF pn2)) ∧ M' (k + 4) = some (aI G 6 (nF av2)) ∧ M' (k + 5) = some (aI G 24 (nF ro2)) ∧ M' (k + 6) = some (aI G 24 (nF te2)) ∧ (∀ j : Nat, j ≠ 22 → j ≠ k → j ≠ (k + 3) → j ≠ (k + 4) → j ≠ (k + 5) → j ≠ (k + 6) → M' j = M j) ∧ (r = bI b2 ∧ a2 ≤ len ∧ (b2 = false ∧ rdPart tb len (nt (qa - 1)) uv aa = .inl g2 ∧ uv2 = uv ∧ pn2 = pn ∧ av2 = av ∧ ro2 = ro ∧ te2 = te ∨ b2 = true ∧ ∃ x t, rdPart tb len (nt (qa - 1)) uv aa = .inr (a2, x, t, uv2) ∧ x < 6 ∧ t < 43 ∧ uv2 < 8 ∧ pn2 = va_up pn (qa - 1) (pn (qa - 1) + 1) ∧ av2 = va_up av (qa - 1) (av (qa - 1) ||| vb t) ∧ ro2 = va_up ro ((qa - 1) * 4 + pn (qa - 1)) x ∧ te2 = va_up te ((qa - 1) * 4 + pn (qa - 1)) t)))) 0 0 (fr z) := by
  refine Met.ofW (cc := cX7_readPart) (maxL := 4) (ret := (some .boolean)) (by decide) rfl ?_
  intro p e s m args below meth c s₁ B hml hv
  obtain ⟨rfl, hv⟩ := hv
  have hI := Iv.entry hv
  have hx := B.exec
  have hb := B.bytes
  have hr := B.returns
  have hts := atoms_spec (ws := wsX7_readPart) B.pre
  have hown : s.vm.findClass RX7 = some m.cls := findClass_of_methodNamed B.named
  have hlocks := B.notSynchronized
  have i_RX7 : ∀ w ∈ u_ws RX7 TX7 4, w ∈ wsX7_readPart := fun w h => List.mem_cons_of_mem _ (iu_X7 w h)
  have f_31 := hts _ (List.mem_cons_of_mem _ (lwg_of t_166 rfl))
  have f_38 := hts _ (List.mem_cons_of_mem _ (lwg_of t_167 rfl))
  have hl := lv_entry ([.ref (ad 22), .ref (ad 1), .ref (ad k)]) (n := 4) (Nat.le_of_ble_eq_true rfl)
  rw [lg_entry_eq]
  generalize (lg_sl ([.ref (ad 22), .ref (ad 1), .ref (ad k)]) ++ List.replicate (4 - (lg_sl ([.ref (ad 22), .ref (ad 1), .ref (ad k)])).length) Slot.unset).toArray = ls at hl ⊢
  have hl : lv_has ls 4 [(0, .ref (ad 22)), (1, .ref (ad 1)), (2, .ref (ad k))] := hl
  have ple1 := ps_le (tb := tb) ha9
  have ple2 := ps_le (tb := tb) ple1
  have ple3 := ps_le (tb := tb) ple2
  have ple4 := ps_le (tb := tb) ple3
  refine lv_aload_n hx hb dX7_readPart_0 rfl (lv_at hl 0 rfl) ?_
  refine lv_aload_n hx hb dX7_readPart_1 rfl (lv_at hl 1 rfl) ?_
  refine k_Nv (va_runV (As := [.ref (ad 1)]) (rest := []) ⟨hx, hb, hml, hown, hts⟩ (c_X7_next2 l G z ad M (aa := aa) (bg := bg) (tk := tk) (vl := vl) (len := len) (tb := tb) h22 h1 h2 (by omega) htb (by omega)) (cwV 1 hts (gV (lwg_of t_919 rfl) (lwg_of t_921 rfl) (lwg_of ts_16 rfl) (lwg_of t_10 rfl) (lwg_of t_922 rfl)) rfl rfl rfl (by decide +kernel) ⟨Nat.le_of_ble_eq_true rfl, Nat.le_of_ble_eq_true rfl⟩) (hI.preV h22 rfl) rfl rfl hl.1 rfl (lv_room (Nat.le_of_ble_eq_true rfl)) dX7_readPart_2 ⟨Nat.le_of_ble_eq_true rfl, Nat.le_of_ble_eq_true rfl⟩) hI (fun M_3 H_4 locs_5 hp_2 hI => ?_)
  obtain ⟨hm_6, hF_7⟩ := hp_2
  have hm_8 : M_3 1 = some (cTape ad len) := by rw [hF_7 1 (by omega)]; exact h1
  have hm_9 : M_3 2 = some (aI G 400 (nF tb)) := by rw [hF_7 2 (by omega)]; exact h2
  have hm_10 : M_3 k = some (cQuestion ad k qa uv) := by rw [hF_7 k (by omega)]; exact hk
  have hm_11 : M_3 (k + 2) = some (aZ G 6 (bF nt)) := by rw [hF_7 (k + 2) (by omega)]; exact q2
  have hm_12 : M_3 (k + 3) = some (aI G 6 (nF pn)) := by rw [hF_7 (k + 3) (by omega)]; exact q3
  have hm_13 : M_3 (k + 4) = some (aI G 6 (nF av)) := by rw [hF_7 (k + 4) (by omega)]; exact q4
  have hm_14 : M_3 (k + 5) = some (aI G 24 (nF ro)) := by rw [hF_7 (k + 5) (by omega)]; exact q5
  have hm_15 : M_3 (k + 6) = some (aI G 24 (nF te)) := by rw [hF_7 (k + 6) (by omega)]; exact q6
  have hF_16 : ∀ j : Nat, j ≠ 22 → M_3 j = M j := fun j q0 => (hF_7 j q0)
  refine lv_aload_n hx hb dX7_readPart_5 rfl (lv_at hl 0 rfl) ?_
  refine h_get (C := RX7) (T := TX7) (N := 4) hx hb hts i_RX7 hown hI hm_6 rfl 2 (by decide) f_31 rfl rfl dX7_readPart_6 ?_
  refine lv_bipush (v := nI 114) hx hb dX7_readPart_9 (by decide) ?_
  refine lv_icmp_ne (tgt := 24) hx hb dX7_readPart_11 (by decide) (fun c_17 => ?_) (fun c_17 => ?_)
  · -- 11: (tkn tb len aa) ne
    refine lv_iconst (v := nI 0) hx hb dX7_readPart_24 (by decide) ?_
    exact e_Ni hx hb hr rfl hlocks hI ⟨false, ps tb len aa, sk tb len aa, tkn tb len aa, vln tb len aa vl, uv, pn, av, ro, te, hm_6, hm_10, hm_12, hm_13, hm_14, hm_15, (fun j q0 q1 q2 q3 q4 q5 => hF_16 j q0), ⟨rfl, ple1, Or.inl ⟨rfl, by simp only [rdPart]; rw [if_pos (by assumption)], rfl, rfl, rfl, rfl, rfl⟩⟩⟩ dX7_readPart_25
  · -- 11: (tkn tb len aa) eq
    refine lv_aload_n hx hb dX7_readPart_14 rfl (lv_at hl 0 rfl) ?_
    refine lv_aload_n hx hb dX7_readPart_15 rfl (lv_at hl 1 rfl) ?_
    refine lv_bipush (v := nI 6) hx hb dX7_readPart_16 (by decide) ?_
    refine k_Ni (va_runV (As := [.ref (ad 1), .int (nI 6)]) (rest := []) ⟨hx, hb, hml, hown, hts⟩ (c_X7_readNumber l G z ad M_3 (aa := ps tb len aa) (bg := sk tb len aa) (tk := tkn tb len aa) (vl := vln tb len aa vl) (len := len) (tb := tb) (bd := 6) hm_6 hm_8 hm_9 (by omega) htb (by omega) (by omega)) (cwV 2 hts (gV (lwg_of t_942 rfl) (lwg_of t_944 rfl) (lwg_of ts_19 rfl) (lwg_of t_10 rfl) (lwg_of t_945 rfl)) rfl rfl rfl (by decide +kernel) ⟨Nat.le_of_ble_eq_true rfl, Nat.le_of_ble_eq_true rfl⟩) (hI.preV hm_6 rfl) rfl rfl hl.1 rfl (lv_room (Nat.le_of_ble_eq_true rfl)) dX7_readPart_18 ⟨Nat.le_of_ble_eq_true rfl, Nat.le_of_ble_eq_true rfl⟩) hI (fun r_18 M_20 H_21 locs_22 hp_19 hI => ?_)
    obtain ⟨hr_23, hm_24, hF_25⟩ := hp_19
    have hm_26 : M_20 1 = some (cTape ad len) := by rw [hF_25 1 (by omega)]; exact hm_8
    have hm_27 : M_20 2 = some (aI G 400 (nF tb)) := by rw [hF_25 2 (by omega)]; exact hm_9
    have hm_28 : M_20 k = some (cQuestion ad k qa uv) := by rw [hF_25 k (by omega)]; exact hm_10
    have hm_29 : M_20 (k + 2) = some (aZ G 6 (bF nt)) := by rw [hF_25 (k + 2) (by omega)]; exact hm_11
    have hm_30 : M_20 (k + 3) = some (aI G 6 (nF pn)) := by rw [hF_25 (k + 3) (by omega)]; exact hm_12
    have hm_31 : M_20 (k + 4) = some (aI G 6 (nF av)) := by rw [hF_25 (k + 4) (by omega)]; exact hm_13
    have hm_32 : M_20 (k + 5) = some (aI G 24 (nF ro)) := by rw [hF_25 (k + 5) (by omega)]; exact hm_14
    have hm_33 : M_20 (k + 6) = some (aI G 24 (nF te)) := by rw [hF_25 (k + 6) (by omega)]; exact hm_15
    have hF_34 : ∀ j : Nat, j ≠ 22 → M_20 j = M j := fun j q0 => (hF_25 j q0).trans (hF_16 j q0)
    rw [hr_23]
    refine lv_if_ne (tgt := 26) hx hb dX7_readPart_21 (by decide) (fun c_35 => ?_) (fun c_35 => ?_)
    · -- 21: bI (nmb tb len (ps tb len aa) 6) ne
      have c_35 : nmb tb len (ps tb len aa) 6 = true := bI_t (c_35)
      refine lv_aload_n hx hb dX7_readPart_26 rfl (lv_at hl 0 rfl) ?_
      refine h_get (C := RX7) (T := TX7) (N := 4) hx hb hts i_RX7 hown hI hm_24 rfl 3 (by decide) f_38 rfl rfl dX7_readPart_27 ?_
      refine n_eq (show _ = nI (nmq tb len (ps tb len aa)) from (nmb_val (bd := 6) htb (by decide) (by assumption)).1 _) ?_
      refine lv_istore_n (lv' := [(3, .int (nI (nmq tb len (ps tb len aa)))), (0, .ref (ad 22)), (1, .ref (ad 1)), (2, .ref (ad k))]) hx hb dX7_readPart_30 rfl hl (by decide) rfl (fun ls hl => ?_)
      refine lv_aload_n hx hb dX7_readPart_31 rfl (lv_at hl 1 rfl) ?_
      refine lv_aload_n hx hb dX7_readPart_32 rfl (lv_at hl 2 rfl) ?_
      refine k_Nv (va_runV (As := [.ref (ad 1)]) (rest := []) ⟨hx, hb, hml, hown, hts⟩ (c_X7_next2 l G z ad M_20 (aa := ps tb len (ps tb len aa)) (bg := sk tb len (ps tb len aa)) (tk := tkn tb len (ps tb len aa)) (vl := vln tb len (ps tb len aa) (vln tb len aa vl)) (len := len) (tb := tb) hm_24 hm_26 hm_27 (by omega) htb (by omega)) (cwV 1 hts (gV (lwg_of t_919 rfl) (lwg_of t_921 rfl) (lwg_of ts_16 rfl) (lwg_of t_10 rfl) (lwg_of t_922 rfl)) rfl rfl rfl (by decide +kernel) ⟨Nat.le_of_ble_eq_true rfl, Nat.le_of_ble_eq_true rfl⟩) (hI.preV hm_24 rfl) rfl rfl hl.1 rfl (lv_room (Nat.le_of_ble_eq_true rfl)) dX7_readPart_33 ⟨Nat.le_of_ble_eq_true rfl, Nat.le_of_ble_eq_true rfl⟩) hI (fun M_38 H_39 locs_40 hp_37 hI => ?_)
      obtain ⟨hm_41, hF_42⟩ := hp_37
      have hm_43 : M_38 1 = some (cTape ad len) := by rw [hF_42 1 (by omega)]; exact hm_26
      have hm_44 : M_38 2 = some (aI G 400 (nF tb)) := by rw [hF_42 2 (by omega)]; exact hm_27
      have hm_45 : M_38 k = some (cQuestion ad k qa uv) := by rw [hF_42 k (by omega)]; exact hm_28
      have hm_46 : M_38 (k + 2) = some (aZ G 6 (bF nt)) := by rw [hF_42 (k + 2) (by omega)]; exact hm_29
      have hm_47 : M_38 (k + 3) = some (aI G 6 (nF pn)) := by rw [hF_42 (k + 3) (by omega)]; exact hm_30
      have hm_48 : M_38 (k + 4) = some (aI G 6 (nF av)) := by rw [hF_42 (k + 4) (by omega)]; exact hm_31
      have hm_49 : M_38 (k + 5) = some (aI G 24 (nF ro)) := by rw [hF_42 (k + 5) (by omega)]; exact hm_32
      have hm_50 : M_38 (k + 6) = some (aI G 24 (nF te)) := by rw [hF_42 (k + 6) (by omega)]; exact hm_33
      have hF_51 : ∀ j : Nat, j ≠ 22 → M_38 j = M j := fun j q0 => (hF_42 j q0).trans (hF_34 j q0)
      refine lv_aload_n hx hb dX7_readPart_36 rfl (lv_at hl 1 rfl) ?_
      refine h_get (C := RX7) (T := TX7) (N := 4) hx hb hts i_RX7 hown hI hm_41 rfl 2 (by decide) f_31 rfl rfl dX7_readPart_37 ?_
      refine lv_bipush (v := nI 116) hx hb dX7_readPart_40 (by decide) ?_
      refine lv_icmp_ne (tgt := 73) hx hb dX7_readPart_42 (by decide) (fun c_52 => ?_) (fun c_52 => ?_)
      · -- 42: (tkn tb len (ps tb len (ps tb len aa))) ne
        refine lv_aload_n hx hb dX7_readPart_73 rfl (lv_at hl 1 rfl) ?_
        refine h_get (C := RX7) (T := TX7) (N := 4) hx hb hts i_RX7 hown hI hm_41 rfl 2 (by decide) f_31 rfl rfl dX7_readPart_74 ?_
        refine lv_bipush (v := nI 97) hx hb dX7_readPart_77 (by decide) ?_
        refine lv_icmp_lt (tgt := 91) hx hb dX7_readPart_79 (by decide) (fun c_53 => ?_) (fun c_53 => ?_)
        · -- 79: (tkn tb len (ps tb len (ps tb len aa))) lt
          refine lv_iconst (v := nI 0) hx hb dX7_readPart_91 (by decide) ?_
          exact e_Ni hx hb hr rfl hlocks hI ⟨false, ps tb len (ps tb len (ps tb len aa)), sk tb len (ps tb len (ps tb len aa)), tkn tb len (ps tb len (ps tb len aa)), vln tb len (ps tb len (ps tb len aa)) (vln tb len (ps tb len aa) (vln tb len aa vl)), uv, pn, av, ro, te, hm_41, hm_45, hm_47, hm_48, hm_49, hm_50, (fun j q0 q1 q2 q3 q4 q5 => hF_51 j q0), ⟨rfl, ple3, Or.inl ⟨rfl, by simp only [rdPart]; rw [if_neg (Decidable.not_not.mpr (by assumption)), if_neg (by rw [show nmb tb len (ps tb len aa) 6 = true by assumption]; exact Bool.noConfusion), if_neg (by assumption), if_pos (Or.inl (by assumption))], rfl, rfl, rfl, rfl, rfl⟩⟩⟩ dX7_readPart_92
        · -- 79: (tkn tb len (ps tb len (ps tb len aa))) ge
          refine lv_aload_n hx hb dX7_readPart_82 rfl (lv_at hl 1 rfl) ?_
          refine h_get (C := RX7) (T := TX7) (N := 4) hx hb hts i_RX7 hown hI hm_41 rfl 2 (by decide) f_31 rfl rfl dX7_readPart_83 ?_
          refine lv_bipush (v := nI 100) hx hb dX7_readPart_86 (by decide) ?_
          refine lv_icmp_lt (tgt := 93) hx hb dX7_readPart_88 (by decide) (fun c_54 => ?_) (fun c_54 => ?_)
          · -- 88: (tkn tb len (ps tb len (ps tb len aa))) lt
            obtain ⟨v, hv3, htk⟩ := var_of (by assumption) (by assumption)
            have htc : (tkn tb len (ps tb len (ps tb len aa))).toNatClampNeg - 97 = v := by rw [htk, nI_clamp (by omega)]; omega
            refine lv_aload_n hx hb dX7_readPart_93 rfl (lv_at hl 3 rfl) ?_
            refine lv_iload_n hx hb dX7_readPart_94 rfl (lv_at hl 0 rfl) ?_
            refine lv_bipush (v := nI 40) hx hb dX7_readPart_95 (by decide) ?_
            refine lv_aload_n hx hb dX7_readPart_97 rfl (lv_at hl 1 rfl) ?_
            refine h_get (C := RX7) (T := TX7) (N := 4) hx hb hts i_RX7 hown hI hm_41 rfl 2 (by decide) f_31 rfl rfl dX7_readPart_98 ?_
            refine lv_iadd hx hb dX7_readPart_101 ?_
            refine lv_bipush (v := nI 97) hx hb dX7_readPart_102 (by decide) ?_
            refine lv_isub hx hb dX7_readPart_104 ?_
            refine n_eq (show _ = nI (40 + v) from by rw [htk, nI_add, pk_sub (by omega)]; congr 1; omega) ?_
            by_cases hc_55 : nt (qa - 1) = true ∧ uv.testBit v = false
            · skip
              refine k_Ri (va_runV (As := [.int (nI (nmq tb len (ps tb len aa))), .int (nI (40 + v))]) (rest := []) ⟨hx, hb, hml, hown, hts⟩ (c_X6_addPart_no l G z ad M_38 (k := k) (aa := qa) (uv := uv) (nt := nt) (pn := pn) (x := nmq tb len (ps tb len aa)) (v := v) hm_45 hm_46 hm_47 (by omega) (by omega) (by omega) (by omega) hc_55.1 hc_55.2) (cwV 2 hts (gV (lwg_of t_954 rfl) (lwg_of t_955 rfl) (lwg_of t_956 rfl) (lwg_of t_12 rfl) (lwg_of t_957 rfl)) rfl rfl rfl (by decide +kernel) ⟨Nat.le_of_ble_eq_true rfl, Nat.le_of_ble_eq_true rfl⟩) (hI.preV hm_45 rfl) rfl rfl hl.1 rfl (lv_room (Nat.le_of_ble_eq_true rfl)) dX7_readPart_105 ⟨Nat.le_of_ble_eq_true rfl, Nat.le_of_ble_eq_true rfl⟩) (fun _ h => h) (fun r_56 hp_57 => ?_)
              rw [hp_57]
              exact e_Ni hx hb hr rfl hlocks hI ⟨false, ps tb len (ps tb len (ps tb len aa)), sk tb len (ps tb len (ps tb len aa)), tkn tb len (ps tb len (ps tb len aa)), vln tb len (ps tb len (ps tb len aa)) (vln tb len (ps tb len aa) (vln tb len aa vl)), uv, pn, av, ro, te, hm_41, hm_45, hm_47, hm_48, hm_49, hm_50, (fun j q0 q1 q2 q3 q4 q5 => hF_51 j q0), ⟨rfl, ple3, Or.inl ⟨rfl, by simp only [rdPart]; rw [if_neg (Decidable.not_not.mpr (by assumption)), if_neg (by rw [show nmb tb len (ps tb len aa) 6 = true by assumption]; exact Bool.noConfusion), if_neg (by assumption), if_neg (fun h => h.elim (fun g => absurd g (by assumption)) (fun g => g (by assumption))), if_pos (by rw [htc]; assumption)], rfl, rfl, rfl, rfl, rfl⟩⟩⟩ dX7_readPart_108
            · skip
              refine k_Ni (va_runV (As := [.int (nI (nmq tb len (ps tb len aa))), .int (nI (40 + v))]) (rest := []) ⟨hx, hb, hml, hown, hts⟩ (c_X6_addPart_v l G z ad M_38 (k := k) (aa := qa) (uv := uv) (nt := nt) (pn := pn) (av := av) (ro := ro) (te := te) (x := nmq tb len (ps tb len aa)) (v := v) hm_45 hm_46 hm_47 hm_48 hm_49 hm_50 (by omega) (by omega) (by omega) (by omega) (by omega) (by cases h9 : nt (qa - 1) with | false => exact Or.inl rfl | true => exact Or.inr (by cases h8 : uv.testBit v with | true => rfl | false => exact absurd ⟨h9, h8⟩ hc_55))) (cwV 2 hts (gV (lwg_of t_954 rfl) (lwg_of t_955 rfl) (lwg_of t_956 rfl) (lwg_of t_12 rfl) (lwg_of t_957 rfl)) rfl rfl rfl (by decide +kernel) ⟨Nat.le_of_ble_eq_true rfl, Nat.le_of_ble_eq_true rfl⟩) (hI.preV hm_45 rfl) rfl rfl hl.1 rfl (lv_room (Nat.le_of_ble_eq_true rfl)) dX7_readPart_105 ⟨Nat.le_of_ble_eq_true rfl, Nat.le_of_ble_eq_true rfl⟩) hI (fun r_58 M_60 H_61 locs_62 hp_59 hI => ?_)
              obtain ⟨hr_63, hm_64, hm_65, hm_66, hm_67, hm_68, hF_69⟩ := hp_59
              have hm_70 : M_60 22 = some (cReader ad (ps tb len (ps tb len (ps tb len aa))) (sk tb len (ps tb len (ps tb len aa))) (tkn tb len (ps tb len (ps tb len aa))) (vln tb len (ps tb len (ps tb len aa)) (vln tb len (ps tb len aa) (vln tb len aa vl)))) := by rw [hF_69 22 (by omega) (by omega) (by omega) (by omega) (by omega)]; exact hm_41
              have hm_71 : M_60 1 = some (cTape ad len) := by rw [hF_69 1 (by omega) (by omega) (by omega) (by omega) (by omega)]; exact hm_43
              have hm_72 : M_60 2 = some (aI G 400 (nF tb)) := by rw [hF_69 2 (by omega) (by omega) (by omega) (by omega) (by omega)]; exact hm_44
              have hm_73 : M_60 (k + 2) = some (aZ G 6 (bF nt)) := by rw [hF_69 (k + 2) (by omega) (by omega) (by omega) (by omega) (by omega)]; exact hm_46
              have hF_74 : ∀ j : Nat, j ≠ 22 → j ≠ k → j ≠ (k + 3) → j ≠ (k + 4) → j ≠ (k + 5) → j ≠ (k + 6) → M_60 j = M j := fun j q0 q1 q2 q3 q4 q5 => (hF_69 j q1 q2 q3 q4 q5).trans (hF_51 j q0)
              rw [hr_63]
              exact e_Ni hx hb hr rfl hlocks hI ⟨true, ps tb len (ps tb len (ps tb len aa)), sk tb len (ps tb len (ps tb len aa)), tkn tb len (ps tb len (ps tb len aa)), vln tb len (ps tb len (ps tb len aa)) (vln tb len (ps tb len aa) (vln tb len aa vl)), uv ||| 2 ^ v, (va_up pn (qa - 1) (pn (qa - 1) + 1)), (va_up av (qa - 1) (av (qa - 1) ||| 2 ^ v)), (va_up ro ((qa - 1) * 4 + pn (qa - 1)) (nmq tb len (ps tb len aa))), (va_up te ((qa - 1) * 4 + pn (qa - 1)) (40 + v)), hm_70, hm_64, hm_65, hm_66, hm_67, hm_68, (fun j q0 q1 q2 q3 q4 q5 => hF_74 j q0 q1 q2 q3 q4 q5), ⟨rfl, ple3, Or.inr ⟨rfl, nmq tb len (ps tb len aa), 40 + v, by simp only [rdPart]; rw [if_neg (Decidable.not_not.mpr (by assumption)), if_neg (by rw [show nmb tb len (ps tb len aa) 6 = true by assumption]; exact Bool.noConfusion), if_neg (by assumption), if_neg (fun h => h.elim (fun g => absurd g (by assumption)) (fun g => g (by assumption))), if_neg (by rw [htc]; assumption), htc], (nmb_val (bd := 6) htb (by decide) (by assumption)).2, by omega, (bit3 uv huv v hv3).2, rfl, by rw [vb_v], rfl, rfl⟩⟩⟩ dX7_readPart_108
          · -- 88: (tkn tb len (ps tb len (ps tb len aa))) ge
            refine lv_iconst (v := nI 0) hx hb dX7_readPart_91 (by decide) ?_
            exact e_Ni hx hb hr rfl hlocks hI ⟨false, ps tb len (ps tb len (ps tb len aa)), sk tb len (ps tb len (ps tb len aa)), tkn tb len (ps tb len (ps tb len aa)), vln tb len (ps tb len (ps tb len aa)) (vln tb len (ps tb len aa) (vln tb len aa vl)), uv, pn, av, ro, te, hm_41, hm_45, hm_47, hm_48, hm_49, hm_50, (fun j q0 q1 q2 q3 q4 q5 => hF_51 j q0), ⟨rfl, ple3, Or.inl ⟨rfl, by simp only [rdPart]; rw [if_neg (Decidable.not_not.mpr (by assumption)), if_neg (by rw [show nmb tb len (ps tb len aa) 6 = true by assumption]; exact Bool.noConfusion), if_neg (by assumption), if_pos (Or.inr (by assumption))], rfl, rfl, rfl, rfl, rfl⟩⟩⟩ dX7_readPart_92
      · -- 42: (tkn tb len (ps tb len (ps tb len aa))) eq
        refine lv_aload_n hx hb dX7_readPart_45 rfl (lv_at hl 1 rfl) ?_
        refine lv_aload_n hx hb dX7_readPart_46 rfl (lv_at hl 2 rfl) ?_
        refine lv_bipush (v := nI 40) hx hb dX7_readPart_47 (by decide) ?_
        refine k_Ni (va_runV (As := [.ref (ad 1), .int (nI 40)]) (rest := []) ⟨hx, hb, hml, hown, hts⟩ (c_X7_readNumber l G z ad M_38 (aa := ps tb len (ps tb len (ps tb len aa))) (bg := sk tb len (ps tb len (ps tb len aa))) (tk := tkn tb len (ps tb len (ps tb len aa))) (vl := vln tb len (ps tb len (ps tb len aa)) (vln tb len (ps tb len aa) (vln tb len aa vl))) (len := len) (tb := tb) (bd := 40) hm_41 hm_43 hm_44 (by omega) htb (by omega) (by omega)) (cwV 2 hts (gV (lwg_of t_942 rfl) (lwg_of t_944 rfl) (lwg_of ts_19 rfl) (lwg_of t_10 rfl) (lwg_of t_945 rfl)) rfl rfl rfl (by decide +kernel) ⟨Nat.le_of_ble_eq_true rfl, Nat.le_of_ble_eq_true rfl⟩) (hI.preV hm_41 rfl) rfl rfl hl.1 rfl (lv_room (Nat.le_of_ble_eq_true rfl)) dX7_readPart_49 ⟨Nat.le_of_ble_eq_true rfl, Nat.le_of_ble_eq_true rfl⟩) hI (fun r_75 M_77 H_78 locs_79 hp_76 hI => ?_)
        obtain ⟨hr_80, hm_81, hF_82⟩ := hp_76
        have hm_83 : M_77 1 = some (cTape ad len) := by rw [hF_82 1 (by omega)]; exact hm_43
        have hm_84 : M_77 2 = some (aI G 400 (nF tb)) := by rw [hF_82 2 (by omega)]; exact hm_44
        have hm_85 : M_77 k = some (cQuestion ad k qa uv) := by rw [hF_82 k (by omega)]; exact hm_45
        have hm_86 : M_77 (k + 2) = some (aZ G 6 (bF nt)) := by rw [hF_82 (k + 2) (by omega)]; exact hm_46
        have hm_87 : M_77 (k + 3) = some (aI G 6 (nF pn)) := by rw [hF_82 (k + 3) (by omega)]; exact hm_47
        have hm_88 : M_77 (k + 4) = some (aI G 6 (nF av)) := by rw [hF_82 (k + 4) (by omega)]; exact hm_48
        have hm_89 : M_77 (k + 5) = some (aI G 24 (nF ro)) := by rw [hF_82 (k + 5) (by omega)]; exact hm_49
        have hm_90 : M_77 (k + 6) = some (aI G 24 (nF te)) := by rw [hF_82 (k + 6) (by omega)]; exact hm_50
        have hF_91 : ∀ j : Nat, j ≠ 22 → M_77 j = M j := fun j q0 => (hF_82 j q0).trans (hF_51 j q0)
        rw [hr_80]
        refine lv_if_eq (tgt := 71) hx hb dX7_readPart_52 (by decide) (fun c_92 => ?_) (fun c_92 => ?_)
        · -- 52: bI (nmb tb len (ps tb len (ps tb len (ps tb len aa))) 40) eq
          have c_92 : nmb tb len (ps tb len (ps tb len (ps tb len aa))) 40 = false := bI_f (c_92)
          refine lv_iconst (v := nI 0) hx hb dX7_readPart_71 (by decide) ?_
          exact e_Ni hx hb hr rfl hlocks hI ⟨false, ps tb len (ps tb len (ps tb len (ps tb len aa))), sk tb len (ps tb len (ps tb len (ps tb len aa))), tkn tb len (ps tb len (ps tb len (ps tb len aa))), vln tb len (ps tb len (ps tb len (ps tb len aa))) (vln tb len (ps tb len (ps tb len aa)) (vln tb len (ps tb len aa) (vln tb len aa vl))), uv, pn, av, ro, te, hm_81, hm_85, hm_87, hm_88, hm_89, hm_90, (fun j q0 q1 q2 q3 q4 q5 => hF_91 j q0), ⟨rfl, ple4, Or.inl ⟨rfl, by simp only [rdPart]; rw [if_neg (Decidable.not_not.mpr (by assumption)), if_neg (by rw [show nmb tb len (ps tb len aa) 6 = true by assumption]; exact Bool.noConfusion), if_pos (by assumption), if_neg (by rw [show nmb tb len (ps tb len (ps tb len (ps tb len aa))) 40 = false by assumption]; exact Bool.false_ne_true)], rfl, rfl, rfl, rfl, rfl⟩⟩⟩ dX7_readPart_72
        · -- 52: bI (nmb tb len (ps tb len (ps tb len (ps tb len aa))) 40) ne
          have c_92 : nmb tb len (ps tb len (ps tb len (ps tb len aa))) 40 = true := bI_t (c_92)
          refine lv_aload_n hx hb dX7_readPart_55 rfl (lv_at hl 3 rfl) ?_
          refine lv_iload_n hx hb dX7_readPart_56 rfl (lv_at hl 0 rfl) ?_
          refine lv_aload_n hx hb dX7_readPart_57 rfl (lv_at hl 1 rfl) ?_
          refine h_get (C := RX7) (T := TX7) (N := 4) hx hb hts i_RX7 hown hI hm_81 rfl 3 (by decide) f_38 rfl rfl dX7_readPart_58 ?_
          refine n_eq (show _ = nI (nmq tb len (ps tb len (ps tb len (ps tb len aa)))) from (nmb_val (bd := 40) htb (by decide) (by assumption)).1 _) ?_
          refine k_Ni (va_runV (As := [.int (nI (nmq tb len (ps tb len aa))), .int (nI (nmq tb len (ps tb len (ps tb len (ps tb len aa)))))]) (rest := []) ⟨hx, hb, hml, hown, hts⟩ (c_X6_addPart_t l G z ad M_77 (k := k) (aa := qa) (uv := uv) (pn := pn) (ro := ro) (te := te) (x := nmq tb len (ps tb len aa)) (t := nmq tb len (ps tb len (ps tb len (ps tb len aa)))) hm_85 hm_87 hm_89 hm_90 (by omega) (by omega) (nmb_val (bd := 40) htb (by decide) (by assumption)).2) (cwV 2 hts (gV (lwg_of t_954 rfl) (lwg_of t_955 rfl) (lwg_of t_956 rfl) (lwg_of t_12 rfl) (lwg_of t_957 rfl)) rfl rfl rfl (by decide +kernel) ⟨Nat.le_of_ble_eq_true rfl, Nat.le_of_ble_eq_true rfl⟩) (hI.preV hm_85 rfl) rfl rfl hl.1 rfl (lv_room (Nat.le_of_ble_eq_true rfl)) dX7_readPart_61 ⟨Nat.le_of_ble_eq_true rfl, Nat.le_of_ble_eq_true rfl⟩) hI (fun r_93 M_95 H_96 locs_97 hp_94 hI => ?_)
          obtain ⟨hr_98, hm_99, hm_100, hm_101, hF_102⟩ := hp_94
          have hm_103 : M_95 22 = some (cReader ad (ps tb len (ps tb len (ps tb len (ps tb len aa)))) (sk tb len (ps tb len (ps tb len (ps tb len aa)))) (tkn tb len (ps tb len (ps tb len (ps tb len aa)))) (vln tb len (ps tb len (ps tb len (ps tb len aa))) (vln tb len (ps tb len (ps tb len aa)) (vln tb len (ps tb len aa) (vln tb len aa vl))))) := by rw [hF_102 22 (by omega) (by omega) (by omega)]; exact hm_81
          have hm_104 : M_95 1 = some (cTape ad len) := by rw [hF_102 1 (by omega) (by omega) (by omega)]; exact hm_83
          have hm_105 : M_95 2 = some (aI G 400 (nF tb)) := by rw [hF_102 2 (by omega) (by omega) (by omega)]; exact hm_84
          have hm_106 : M_95 k = some (cQuestion ad k qa uv) := by rw [hF_102 k (by omega) (by omega) (by omega)]; exact hm_85
          have hm_107 : M_95 (k + 2) = some (aZ G 6 (bF nt)) := by rw [hF_102 (k + 2) (by omega) (by omega) (by omega)]; exact hm_86
          have hm_108 : M_95 (k + 4) = some (aI G 6 (nF av)) := by rw [hF_102 (k + 4) (by omega) (by omega) (by omega)]; exact hm_88
          have hF_109 : ∀ j : Nat, j ≠ 22 → j ≠ (k + 3) → j ≠ (k + 5) → j ≠ (k + 6) → M_95 j = M j := fun j q0 q1 q2 q3 => (hF_102 j q1 q2 q3).trans (hF_91 j q0)
          rw [hr_98]
          refine lv_if_eq (tgt := 71) hx hb dX7_readPart_64 (by decide) (fun c_110 => ?_) (fun c_110 => ?_)
          · -- 64: nI 1 eq
            exact absurd c_110 (by decide)
          · -- 64: nI 1 ne
            refine lv_iconst (v := nI 1) hx hb dX7_readPart_67 (by decide) ?_
            refine lv_goto (tgt := 72) hx hb dX7_readPart_68 (by decide) ?_
            exact e_Ni hx hb hr rfl hlocks hI ⟨true, ps tb len (ps tb len (ps tb len (ps tb len aa))), sk tb len (ps tb len (ps tb len (ps tb len aa))), tkn tb len (ps tb len (ps tb len (ps tb len aa))), vln tb len (ps tb len (ps tb len (ps tb len aa))) (vln tb len (ps tb len (ps tb len aa)) (vln tb len (ps tb len aa) (vln tb len aa vl))), uv, (va_up pn (qa - 1) (pn (qa - 1) + 1)), av, (va_up ro ((qa - 1) * 4 + pn (qa - 1)) (nmq tb len (ps tb len aa))), (va_up te ((qa - 1) * 4 + pn (qa - 1)) (nmq tb len (ps tb len (ps tb len (ps tb len aa))))), hm_103, hm_106, hm_99, hm_108, hm_100, hm_101, (fun j q0 q1 q2 q3 q4 q5 => hF_109 j q0 q2 q4 q5), ⟨rfl, ple4, Or.inr ⟨rfl, nmq tb len (ps tb len aa), nmq tb len (ps tb len (ps tb len (ps tb len aa))), by simp only [rdPart]; rw [if_neg (Decidable.not_not.mpr (by assumption)), if_neg (by rw [show nmb tb len (ps tb len aa) 6 = true by assumption]; exact Bool.noConfusion), if_pos (by assumption), if_pos (by assumption)], (nmb_val (bd := 6) htb (by decide) (by assumption)).2, by have := (nmb_val (bd := 40) htb (by decide) (by assumption : nmb tb len (ps tb len (ps tb len (ps tb len aa))) 40 = true)).2; omega, huv, rfl, by rw [vb_t (nmb_val (bd := 40) htb (by decide) (by assumption : nmb tb len (ps tb len (ps tb len (ps tb len aa))) 40 = true)).2]; exact (va_same av (qa - 1)).symm, rfl, rfl⟩⟩⟩ dX7_readPart_72
    · -- 21: bI (nmb tb len (ps tb len aa) 6) eq
      have c_35 : nmb tb len (ps tb len aa) 6 = false := bI_f (c_35)
      refine lv_iconst (v := nI 0) hx hb dX7_readPart_24 (by decide) ?_
      exact e_Ni hx hb hr rfl hlocks hI ⟨false, ps tb len (ps tb len aa), sk tb len (ps tb len aa), tkn tb len (ps tb len aa), vln tb len (ps tb len aa) (vln tb len aa vl), uv, pn, av, ro, te, hm_24, hm_28, hm_30, hm_31, hm_32, hm_33, (fun j q0 q1 q2 q3 q4 q5 => hF_34 j q0), ⟨rfl, ple2, Or.inl ⟨rfl, by simp only [rdPart]; rw [if_neg (Decidable.not_not.mpr (by assumption)), if_pos (by assumption)], rfl, rfl, rfl, rfl, rfl⟩⟩⟩ dX7_readPart_25
