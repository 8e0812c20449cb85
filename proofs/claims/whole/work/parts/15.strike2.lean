def sOK (n : Nat) (kd : Nat → Nat) (ho : Nat → Bool) (fm to : Nat → Int32) (sz : Nat → Nat) (en : Nat → Nat → Nat) (q : Nat) (d : Int32) : Prop := decide (fm q ≤ d ∧ d ≤ to q) = true ∧ ∀ l, l < n → ¬ hld kd ho fm to sz en q d l
def pQ (fm to : Nat → Int32) (sz : Nat → Nat) (en : Nat → Nat → Nat) (q : Nat) (d : Int32) (l : Nat) : Bool := decide (q ≤ l) && stk fm to sz en q d l
def toS (fm to : Nat → Int32) (sz : Nat → Nat) (en : Nat → Nat → Nat) (q : Nat) (d : Int32) (m l : Nat) : Int32 := if l < m ∧ pQ fm to sz en q d l = true then dOf d (fm l) - nI 1 else to l
theorem toS_yes {fm to : Nat → Int32} {sz : Nat → Nat} {en : Nat → Nat → Nat} {q i : Nat} {d : Int32} {tx : Nat → Int32} (h : ∀ l, tx l = toS fm to sz en q d i l) (hp : pQ fm to sz en q d i = true) : ∀ l, va_up tx i (dOf d (fm i) - nI 1) l = toS fm to sz en q d (i + 1) l := fun l => by
  by_cases e : l = i
  · subst e; rw [va_up_self, toS, if_pos ⟨by omega, hp⟩]
  · rw [va_up_ne _ _ e, h l, toS, toS]
    by_cases h1 : l < i ∧ pQ fm to sz en q d l = true
    · rw [if_pos h1, if_pos ⟨by omega, h1.2⟩]
    · rw [if_neg h1, if_neg (fun h2 => h1 ⟨by omega, h2.2⟩)]
theorem toS_no {fm to : Nat → Int32} {sz : Nat → Nat} {en : Nat → Nat → Nat} {q i : Nat} {d : Int32} {tx : Nat → Int32} (h : ∀ l, tx l = toS fm to sz en q d i l) (hp : pQ fm to sz en q d i = false) : ∀ l, tx l = toS fm to sz en q d (i + 1) l := fun l => by
  rw [h l, toS, toS]
  by_cases h1 : l < i ∧ pQ fm to sz en q d l = true
  · rw [if_pos h1, if_pos ⟨by omega, h1.2⟩]
  · rw [if_neg h1, if_neg (fun h2 => h1 ⟨by
      by_cases e : l = i
      · subst e; rw [hp] at h2; cases h2.2
      · omega, h2.2⟩)]
theorem toS_q {fm to : Nat → Int32} {sz : Nat → Nat} {en : Nat → Nat → Nat} {q : Nat} {d : Int32} : ∀ l, to l = toS fm to sz en q d q l := fun l => by
  rw [toS, if_neg]
  rintro ⟨h1, h2⟩
  simp only [pQ, Bool.and_eq_true, decide_eq_true_eq] at h2
  omega
theorem pQ_of {fm to : Nat → Int32} {sz : Nat → Nat} {en : Nat → Nat → Nat} {q i : Nat} {d : Int32} {b : Bool} (h : q ≤ i) (h2 : b = stk fm to sz en q d i) : pQ fm to sz en q d i = b := by rw [pQ, ← h2, decide_eq_true h]; simp

/-- X3_strikeFrom -/
abbrev rm_c_X3_strikeFrom : Room := { frames := 4, cells := 0, slots := 0, locals := 91 }
set_option maxHeartbeats 4000000 in
set_option maxRecDepth 100000 in
theorem c_X3_strikeFrom (l : Launch) (G : GG) (z : Nat) (ad : Nat → Nat) (M : Mem) {n : Nat} {kd : Nat → Nat} {fm : Nat → Int32} {to : Nat → Int32} {sz : Nat → Nat} {rl : Nat → Nat → Nat} {en : Nat → Nat → Nat} {ho : Nat → Bool} {mk : Nat → Bool} {q : Nat} {d : Int32} (hL : LSm G ad M n kd fm to sz rl en) (h3 : M 3 = some (cLaws ad )) (h7 : M 7 = some (aZ G 6 (bF ho))) (h19 : M 19 = some (aZ G 120 (bF mk))) (hw : LSw n kd sz rl en) (hq : q < n) : Met l yX3_strikeFrom wsX3_strikeFrom rm_c_X3_strikeFrom (Pr G z ad M [.ref (ad 16), .int (nI q), .int d, .ref (ad 3)]) (Ni G z ad (fun (r : Int32) (M' : Mem) => ∃ v : Nat, ∃ tn : Nat → Int32, ∃ mk2 : Nat → Bool, r = nI v ∧ M' 19 = some (aZ G 120 (bF mk2)) ∧ (∀ j : Nat, j ≠ 19 → j < 100 → M' j = M j) ∧ LSm G ad M' n kd fm tn sz rl en ∧ ((sOK n kd ho fm to sz en q d → v = cntB (pQ fm to sz en q d) n ∧ ∀ l, tn l = toS fm to sz en q d n l) ∧ (¬ sOK n kd ho fm to sz en q d → v = 0 ∧ tn = to)))) 0 0 (fr z) := by
  refine Met.ofW (cc := cX3_strikeFrom) (maxL := 7) (ret := (some .int)) (by decide) rfl ?_
  intro p e s m args below meth c s₁ B hml hv
  obtain ⟨rfl, hv⟩ := hv
  have hI := Iv.entry hv
  have hx := B.exec
  have hb := B.bytes
  have hr := B.returns
  have hts := atoms_spec (ws := wsX3_strikeFrom) B.pre
  have hown : s.vm.findClass RX3 = some m.cls := findClass_of_methodNamed B.named
  have hlocks := B.notSynchronized
  have i_RX3 : ∀ w ∈ u_ws RX3 TX3 4, w ∈ wsX3_strikeFrom := fun w h => List.mem_cons_of_mem _ (iu_X3 w h)
  have f_12 := hts _ (List.mem_cons_of_mem _ (lwg_of t_145 rfl))
  have cl_37 := hts _ (List.mem_cons_of_mem _ (lwg_of t_350 rfl))
  have f_18 := hts _ (List.mem_cons_of_mem _ (lwg_of t_146 rfl))
  have i_RX2 : ∀ w ∈ u_ws RX2 TX2 4, w ∈ wsX3_strikeFrom := fun w h => List.mem_cons_of_mem _ (iu_X2 w h)
  have m_107 := hts _ (List.mem_cons_of_mem _ (lwg_of t_748 rfl))
  have s_mmax := hts _ (List.mem_cons_of_mem _ (lwg_of t_737 rfl))
  have s_mi := hts _ (List.mem_cons_of_mem _ (lwg_of t_14 rfl))
  have s_mcmax := hts _ (List.mem_cons_of_mem _ (lwg_of t_738 rfl))
  have hl := lv_entry ([.ref (ad 16), .int (nI q), .int d, .ref (ad 3)]) (n := 7) (Nat.le_of_ble_eq_true rfl)
  rw [lg_entry_eq]
  generalize (lg_sl ([.ref (ad 16), .int (nI q), .int d, .ref (ad 3)]) ++ List.replicate (7 - (lg_sl ([.ref (ad 16), .int (nI q), .int d, .ref (ad 3)])).length) Slot.unset).toArray = ls at hl ⊢
  have hl : lv_has ls 7 [(0, .ref (ad 16)), (1, .int (nI q)), (2, .int d), (3, .ref (ad 3))] := hl
  refine w_q (fun Q hQ => ?_)
  have h16 := hL.1
  obtain ⟨mcn, ed, h17, hed⟩ := id hL.2.1
  have hw1 := hw.1
  refine lv_aload_n hx hb dX3_strikeFrom_0 rfl (lv_at hl 0 rfl) ?_
  refine h_get (C := RX3) (T := TX3) (N := 4) hx hb hts i_RX3 hown hI h16 rfl 0 (by decide) f_12 rfl rfl dX3_strikeFrom_1 ?_
  refine lv_iload_n hx hb dX3_strikeFrom_4 rfl (lv_at hl 1 rfl) ?_
  refine k_Rq (va_runV (As := [.int (nI q)]) (rest := []) ⟨hx, hb, hml, hown, hts⟩ (c_Jx4a65c_get_915e3 l G z ad M (n := n) (i := q) hL.2.1 (by omega) (by omega)) (cwV 1 hts (gV (lwg_of t_336 rfl) (lwg_of t_337 rfl) (lwg_of t_338 rfl) (lwg_of t_9 rfl) (lwg_of t_339 rfl)) rfl rfl rfl (by decide +kernel) ⟨Nat.le_of_ble_eq_true rfl, Nat.le_of_ble_eq_true rfl⟩) (hI.preV h17 rfl) rfl rfl hl.1 rfl (lv_room (Nat.le_of_ble_eq_true rfl)) dX3_strikeFrom_5 ⟨Nat.le_of_ble_eq_true rfl, Nat.le_of_ble_eq_true rfl⟩) (fun _ h => h) (fun r_1 hp_2 => ?_)
  rw [hp_2]; show W _ _ _ _ _ _ _ _ _ _ _ _ _ _ _ (F0 m 8 ls (.ref (ad (100 + 5 * q)) :: []))
  refine h_cast (q := (RX2, TX2, 4)) hx hb hown cl_37 hI (hL.2.2 q (by omega)).1 rfl dX3_strikeFrom_8 ?_
  refine lv_iload_n hx hb dX3_strikeFrom_11 rfl (lv_at hl 2 rfl) ?_
  refine k_Ri (va_runV (As := [.int d]) (rest := []) ⟨hx, hb, hml, hown, hts⟩ (c_X2_isInForce l G z ad M (k := 100 + 5 * q) (kd := kd q) (fm := fm q) (to := to q) (d := d) (hL.2.2 q (by omega)).1) (cwV 1 hts (gV (lwg_of t_821 rfl) (lwg_of t_356 rfl) (lwg_of t_357 rfl) (lwg_of t_21 rfl) (lwg_of t_358 rfl)) rfl rfl rfl (by decide +kernel) ⟨Nat.le_of_ble_eq_true rfl, Nat.le_of_ble_eq_true rfl⟩) (hI.preV (hL.2.2 q (by omega)).1 rfl) rfl rfl hl.1 rfl (lv_room (Nat.le_of_ble_eq_true rfl)) dX3_strikeFrom_12 ⟨Nat.le_of_ble_eq_true rfl, Nat.le_of_ble_eq_true rfl⟩) (fun _ h => h) (fun r_3 hp_4 => ?_)
  rw [hp_4]
  refine lv_if_eq (tgt := 28) hx hb dX3_strikeFrom_15 (by decide) (fun c_5 => ?_) (fun c_5 => ?_)
  · -- 15: bI (decide ((fm q) ≤ d ∧ d ≤ (to q))) eq
    have c_5 : decide ((fm q) ≤ d ∧ d ≤ (to q)) = false := bI_f (c_5)
    refine lv_iconst (v := nI 0) hx hb dX3_strikeFrom_28 (by decide) ?_
    subst hQ
    exact e_Ni hx hb hr rfl hlocks hI ⟨0, to, mk, rfl, h19, (fun j _ _ => rfl), hL, ⟨fun h => absurd h.1 (by rw [show decide (fm q ≤ d ∧ d ≤ to q) = false by assumption]; exact Bool.false_ne_true), fun _ => ⟨rfl, rfl⟩⟩⟩ dX3_strikeFrom_29
  · -- 15: bI (decide ((fm q) ≤ d ∧ d ≤ (to q))) ne
    have c_5 : decide ((fm q) ≤ d ∧ d ≤ (to q)) = true := bI_t (c_5)
    refine lv_aload_n hx hb dX3_strikeFrom_18 rfl (lv_at hl 0 rfl) ?_
    refine lv_iload_n hx hb dX3_strikeFrom_19 rfl (lv_at hl 1 rfl) ?_
    refine lv_iload_n hx hb dX3_strikeFrom_20 rfl (lv_at hl 2 rfl) ?_
    refine lv_aload_n hx hb dX3_strikeFrom_21 rfl (lv_at hl 3 rfl) ?_
    refine k_Ni (va_runV (As := [.int (nI q), .int d, .ref (ad 3)]) (rest := []) ⟨hx, hb, hml, hown, hts⟩ (c_X3_markStruck l G z ad M (n := n) (kd := kd) (fm := fm) (to := to) (sz := sz) (rl := rl) (en := en) (ho := ho) (mk := mk) (q := q) (d := d) hL h3 h7 h19 (by omega) (by omega)) (cwV 3 hts (gV (lwg_of t_822 rfl) (lwg_of t_824 rfl) (lwg_of ts_14 rfl) (lwg_of t_6 rfl) (lwg_of t_825 rfl)) rfl rfl rfl (by decide +kernel) ⟨Nat.le_of_ble_eq_true rfl, Nat.le_of_ble_eq_true rfl⟩) (hI.preV h16 rfl) rfl rfl hl.1 rfl (lv_room (Nat.le_of_ble_eq_true rfl)) dX3_strikeFrom_22 ⟨Nat.le_of_ble_eq_true rfl, Nat.le_of_ble_eq_true rfl⟩) hI (fun r_6 M_8 H_9 locs_10 hp_7 hI => ?_)
    obtain ⟨b_14, mk2_15, hm_11, hF_12, hP_13⟩ := hp_7
    have hm_16 : M_8 3 = some (cLaws ad ) := by rw [hF_12 3 (by omega)]; exact h3
    have hm_17 : M_8 7 = some (aZ G 6 (bF ho)) := by rw [hF_12 7 (by omega)]; exact h7
    have hm_18 : M_8 16 = some (cLines ad ) := by rw [hF_12 16 (by omega)]; exact h16
    have hm_19 : M_8 17 = some (cList ad mcn ed n) := by rw [hF_12 17 (by omega)]; exact h17
    have hL_20 : LSm G ad M_8 n kd fm to sz rl en := hL.keep (fun j hj => hF_12 j (by omega))
    have hF_21 : ∀ j : Nat, j ≠ 19 → M_8 j = M j := fun j q0 => (hF_12 j q0)
    refine n_eq (show _ = bI b_14 from hP_13.1) ?_
    refine lv_if_ne (tgt := 30) hx hb dX3_strikeFrom_25 (by decide) (fun c_22 => ?_) (fun c_22 => ?_)
    · -- 25: bI b_14 ne
      have c_22 : b_14 = true := bI_t (c_22)
      have hbk := hP_13.2.2 (by assumption)
      have hbh := hP_13.2.1.mp (by assumption)
      refine lv_iconst (v := nI 0) hx hb dX3_strikeFrom_30 (by decide) ?_
      refine lv_istore (lv' := [(4, .int (nI 0)), (0, .ref (ad 16)), (1, .int (nI q)), (2, .int d), (3, .ref (ad 3))]) hx hb dX3_strikeFrom_31 hl (by decide) rfl (fun ls hl => ?_)
      refine lv_iload_n hx hb dX3_strikeFrom_33 rfl (lv_at hl 2 rfl) ?_
      refine lv_istore (lv' := [(5, .int (nI q)), (4, .int (nI 0)), (0, .ref (ad 16)), (1, .int (nI q)), (2, .int d), (3, .ref (ad 3))]) hx hb dX3_strikeFrom_34 hl (by decide) rfl (fun ls hl => ?_)
      have lp36_23 : ∀ (fuel : Nat) (i : Nat) (cn : Nat) (tx : Nat → Int32) (Mx : Mem) (Hx : Heap) (locsx : List Loc) (ls : Array Slot), (n - i) < fuel → (q ≤ i ∧ i ≤ n) → (cn = cntB (pQ fm to sz en q d) i) → (∀ l, tx l = toS fm to sz en q d i l) → Iv G z ad Mx s Hx locsx → Mx 19 = some (aZ G 120 (bF mk2_15)) → LSm G ad Mx n kd fm tx sz rl en → (∀ j : Nat, j ≠ 19 → j < 100 → Mx j = M j) → lv_has ls 7 [(0, .ref (ad 16)), (1, .int (nI q)), (2, .int d), (4, .int (nI cn)), (5, .int (nI i))] → W p l e (headSpec wsX3_strikeFrom rm_c_X3_strikeFrom).room s m ([.ref (ad 16), .int (nI q), .int d, .ref (ad 3)] : List Value).toArray below meth c Hx locsx 0 0 Q (F0 m 36 ls []) := by
        intro fuel
        induction fuel with
        | zero => intro i cn tx Mx Hx locsx ls hfu hi hcn htx hI hm_24 hL_25 hF_26 hl; exact absurd hfu (Nat.not_lt_zero _)
        | succ fuel ih_27 =>
          intro i cn tx Mx Hx locsx ls hfu hi hcn htx hI hm_24 hL_25 hF_26 hl
          have hm_28 : Mx 3 = some (cLaws ad ) := by rw [hF_26 3 (by omega) (by omega)]; exact h3
          have hm_29 : Mx 7 = some (aZ G 6 (bF ho)) := by rw [hF_26 7 (by omega) (by omega)]; exact h7
          have hm_30 : Mx 16 = some (cLines ad ) := by rw [hF_26 16 (by omega) (by omega)]; exact h16
          have hm_31 : Mx 17 = some (cList ad mcn ed n) := by rw [hF_26 17 (by omega) (by omega)]; exact h17
          have hw1 := hw.1
          have hle := cntB_le (pQ fm to sz en q d) i
          refine lv_iload hx hb dX3_strikeFrom_36 (lv_at hl 4 rfl) ?_
          refine lv_aload_n hx hb dX3_strikeFrom_38 rfl (lv_at hl 0 rfl) ?_
          refine h_get (C := RX3) (T := TX3) (N := 4) hx hb hts i_RX3 hown hI hm_30 rfl 0 (by decide) f_12 rfl rfl dX3_strikeFrom_39 ?_
          refine k_Ri (va_runV (As := []) (rest := [.int (nI i)]) ⟨hx, hb, hml, hown, hts⟩ (c_Jx4a65c_size_8abf5 l G z ad Mx (n := n) hL_25.2.1) (cwV 0 hts (gV (lwg_of t_328 rfl) (lwg_of t_329 rfl) (lwg_of t_330 rfl) (lwg_of t_9 rfl) (lwg_of t_331 rfl)) rfl rfl rfl (by decide +kernel) ⟨Nat.le_of_ble_eq_true rfl, Nat.le_of_ble_eq_true rfl⟩) (hI.preV hm_31 rfl) rfl rfl hl.1 rfl (lv_room (Nat.le_of_ble_eq_true rfl)) dX3_strikeFrom_42 ⟨Nat.le_of_ble_eq_true rfl, Nat.le_of_ble_eq_true rfl⟩) (fun _ h => h) (fun r_32 hp_33 => ?_)
          rw [hp_33]
          refine lv_icmp_ge (tgt := 97) hx hb dX3_strikeFrom_45 (by decide) (fun c_34 => ?_) (fun c_34 => ?_)
          · -- 45: nI i ge
            have c_34 : n ≤ i := (nI_leI (a := n) (b := i) (by omega) (by omega)).mp (c_34)
            refine lv_iload hx hb dX3_strikeFrom_97 (lv_at hl 3 rfl) ?_
            subst hQ
            exact e_Ni hx hb hr rfl hlocks hI ⟨cn, tx, mk2_15, rfl, hm_24, (fun j q0 q1 => hF_26 j q0 q1), hL_25, ⟨fun _ => ⟨by rw [hcn, show i = n by omega], fun l => by rw [htx l, show i = n by omega]⟩, fun h => absurd ⟨by assumption, hbh⟩ h⟩⟩ dX3_strikeFrom_99
          · -- 45: nI i lt
            have c_34 : i < n := by have h := mt (nI_leI (a := n) (b := i) (by omega) (by omega)).mpr c_34; omega
            have hpq : pQ fm to sz en q d i = mk2_15 i := pQ_of (by omega) (hbk i (by omega) (by omega))
            refine lv_aload_n hx hb dX3_strikeFrom_48 rfl (lv_at hl 0 rfl) ?_
            refine h_get (C := RX3) (T := TX3) (N := 4) hx hb hts i_RX3 hown hI hm_30 rfl 1 (by decide) f_18 rfl rfl dX3_strikeFrom_49 ?_
            refine lv_iload hx hb dX3_strikeFrom_52 (lv_at hl 4 rfl) ?_
            refine h_zald (i := i) hx hb hI hm_24 (by omega) (by decide) dX3_strikeFrom_54 ?_
            refine lv_if_eq (tgt := 91) hx hb dX3_strikeFrom_55 (by decide) (fun c_35 => ?_) (fun c_35 => ?_)
            · -- 55: bI (mk2_15 i) eq
              have c_35 : mk2_15 i = false := bI_f (c_35)
              refine lv_iinc (v := nI (i + 1)) (lv' := [(5, .int (nI (i + 1))), (0, .ref (ad 16)), (1, .int (nI q)), (2, .int d), (4, .int (nI cn))]) hx hb dX3_strikeFrom_91 hl (k := 4) rfl (nI_add i 1) (by decide) rfl (fun ls hl => ?_)
              refine lv_goto (tgt := 36) hx hb dX3_strikeFrom_94 (by decide) ?_
              exact ih_27 (i + 1) cn tx Mx Hx locsx ls (by omega) (by omega) (by rw [cntB_f (by rw [hpq]; assumption), hcn]) (toS_no htx (by rw [hpq]; assumption)) hI hm_24 hL_25 (fun j q0 q1 => hF_26 j q0 q1) (lv_sub hl [1, 2, 3, 4, 0] rfl)
            · -- 55: bI (mk2_15 i) ne
              have c_35 : mk2_15 i = true := bI_t (c_35)
              refine lv_aload_n hx hb dX3_strikeFrom_58 rfl (lv_at hl 0 rfl) ?_
              refine h_get (C := RX3) (T := TX3) (N := 4) hx hb hts i_RX3 hown hI hm_30 rfl 0 (by decide) f_12 rfl rfl dX3_strikeFrom_59 ?_
              refine lv_iload hx hb dX3_strikeFrom_62 (lv_at hl 4 rfl) ?_
              refine k_Rq (va_runV (As := [.int (nI i)]) (rest := []) ⟨hx, hb, hml, hown, hts⟩ (c_Jx4a65c_get_915e3 l G z ad Mx (n := n) (i := i) hL_25.2.1 (by omega) (by omega)) (cwV 1 hts (gV (lwg_of t_336 rfl) (lwg_of t_337 rfl) (lwg_of t_338 rfl) (lwg_of t_9 rfl) (lwg_of t_339 rfl)) rfl rfl rfl (by decide +kernel) ⟨Nat.le_of_ble_eq_true rfl, Nat.le_of_ble_eq_true rfl⟩) (hI.preV hm_31 rfl) rfl rfl hl.1 rfl (lv_room (Nat.le_of_ble_eq_true rfl)) dX3_strikeFrom_64 ⟨Nat.le_of_ble_eq_true rfl, Nat.le_of_ble_eq_true rfl⟩) (fun _ h => h) (fun r_36 hp_37 => ?_)
              rw [hp_37]; show W _ _ _ _ _ _ _ _ _ _ _ _ _ _ _ (F0 m 67 ls (.ref (ad (100 + 5 * i)) :: []))
              refine h_cast (q := (RX2, TX2, 4)) hx hb hown cl_37 hI (hL_25.2.2 i (by omega)).1 rfl dX3_strikeFrom_67 ?_
              refine lv_astore (lv' := [(6, .ref (ad (100 + 5 * i))), (0, .ref (ad 16)), (1, .int (nI q)), (2, .int d), (4, .int (nI cn)), (5, .int (nI i))]) hx hb dX3_strikeFrom_70 hl (by decide) rfl (fun ls hl => ?_)
              refine lv_aload hx hb dX3_strikeFrom_72 (lv_at hl 0 rfl) ?_
              refine lv_iload_n hx hb dX3_strikeFrom_74 rfl (lv_at hl 3 rfl) ?_
              refine lv_aload hx hb dX3_strikeFrom_75 (lv_at hl 0 rfl) ?_
              refine h_getN (C := RX2) (T := TX2) (N := 4) hx hb hts i_RX2 hown hI (hL_25.2.2 i (by omega)).1 rfl 1 (by decide) (nwf_at (i := 7) (q := ("LineStore$Lines", 58, "LineStore$Line", "from", "I", "LineStore")) hI rfl) rfl rfl dX3_strikeFrom_77 ?_
              refine va_mmax hx hb (by rw [hml]; exact hl.1.symm) hown m_107 s_mmax s_mi s_mcmax (Nat.le_of_ble_eq_true rfl) (Nat.le_of_ble_eq_true rfl) (Nat.le_of_ble_eq_true rfl) (Nat.le_of_ble_eq_true rfl) dX3_strikeFrom_80 ?_
              refine n_eq (show _ = dOf d (fm i) from rfl) ?_
              refine lv_iconst (v := nI 1) hx hb dX3_strikeFrom_83 (by decide) ?_
              refine lv_isub hx hb dX3_strikeFrom_84 ?_
              refine h_putN (C := RX2) (T := TX2) (N := 4) hx hb hts i_RX2 tyX2 tyX2_ok nmX2 hown hI (hL_25.2.2 i (by omega)).1 rfl 2 (by decide) (nwf_at (i := 8) (q := ("LineStore$Lines", 62, "LineStore$Line", "to", "I", "LineStore")) hI rfl) rfl rfl rfl rfl (Nat.le_of_ble_eq_true rfl) dX3_strikeFrom_85 (fun M_38 H_39 locs_40 eM_41 hI => ?_)
              have hm_42 : M_38 3 = some (cLaws ad ) := by rw [eM_41, va_up_ne _ _ (by omega)]; exact hm_28
              have hm_43 : M_38 7 = some (aZ G 6 (bF ho)) := by rw [eM_41, va_up_ne _ _ (by omega)]; exact hm_29
              have hm_44 : M_38 16 = some (cLines ad ) := by rw [eM_41, va_up_ne _ _ (by omega)]; exact hm_30
              have hm_45 : M_38 17 = some (cList ad mcn ed n) := by rw [eM_41, va_up_ne _ _ (by omega)]; exact hm_31
              have hm_46 : M_38 19 = some (aZ G 120 (bF mk2_15)) := by rw [eM_41, va_up_ne _ _ (by omega)]; exact hm_24
              have hL_47 : LSm G ad M_38 n kd fm (va_up tx i ((dOf d (fm i)) - (nI 1))) sz rl en := hL_25.put eM_41 (by omega)
              have hF_48 : ∀ j : Nat, j ≠ 19 → j < 100 → M_38 j = M j := fun j q0 q1 => by rw [eM_41, va_up_ne _ _ (by omega)]; exact hF_26 j q0 q1
              refine lv_iinc (v := nI (cn + 1)) (lv' := [(4, .int (nI (cn + 1))), (6, .ref (ad (100 + 5 * i))), (0, .ref (ad 16)), (1, .int (nI q)), (2, .int d), (5, .int (nI i))]) hx hb dX3_strikeFrom_88 hl (k := 4) rfl (nI_add cn 1) (by decide) rfl (fun ls hl => ?_)
              refine lv_iinc (v := nI (i + 1)) (lv' := [(5, .int (nI (i + 1))), (4, .int (nI (cn + 1))), (6, .ref (ad (100 + 5 * i))), (0, .ref (ad 16)), (1, .int (nI q)), (2, .int d)]) hx hb dX3_strikeFrom_91 hl (k := 5) rfl (nI_add i 1) (by decide) rfl (fun ls hl => ?_)
              refine lv_goto (tgt := 36) hx hb dX3_strikeFrom_94 (by decide) ?_
              exact ih_27 (i + 1) (cn + 1) (va_up tx i ((dOf d (fm i)) - (nI 1))) M_38 H_39 locs_40 ls (by omega) (by omega) (by rw [cntB_t (by rw [hpq]; assumption), hcn]) (toS_yes htx (by rw [hpq]; assumption)) hI hm_46 hL_47 (fun j q0 q1 => hF_48 j q0 q1) (lv_sub hl [3, 4, 5, 1, 0] rfl)
      exact lp36_23 ((n - q) + 1) q 0 to M_8 H_9 locs_10 ls (Nat.lt_succ_self _) (by omega) ((cntB_0 (fun j hj => by simp [pQ]; omega)).symm) (toS_q) hI hm_11 hL_20 (fun j q0 q1 => hF_21 j q0) (lv_sub hl [2, 3, 4, 1, 0] rfl)
    · -- 25: bI b_14 eq
      have c_22 : b_14 = false := bI_f (c_22)
      refine lv_iconst (v := nI 0) hx hb dX3_strikeFrom_28 (by decide) ?_
      subst hQ
      exact e_Ni hx hb hr rfl hlocks hI ⟨0, to, mk2_15, rfl, hm_11, (fun j q0 q1 => hF_21 j q0), hL_20, ⟨fun h => absurd (hP_13.2.1.mpr h.2) (by rw [show b_14 = false by assumption]; exact Bool.false_ne_true), fun _ => ⟨rfl, rfl⟩⟩⟩ dX3_strikeFrom_29
