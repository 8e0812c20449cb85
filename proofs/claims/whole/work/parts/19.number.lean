/-- where the next token begins, where it ends, what it is, its value -/
def sk (tb : Nat → Nat) (len p : Nat) : Nat := run (bl tb) len p
def ps (tb : Nat → Nat) (len p : Nat) : Nat := nxA tb len (run (bl tb) len p)
def tkn (tb : Nat → Nat) (len p : Nat) : Int32 := nxT tb len (run (bl tb) len p)
def vln (tb : Nat → Nat) (len p : Nat) (v : Int32) : Int32 := nxV tb len (run (bl tb) len p) v
theorem ps_le {tb : Nat → Nat} {len p : Nat} (h : p ≤ len) : ps tb len p ≤ len := by
  have h1 := run_le (P := bl tb) h
  simp only [ps, nxA]
  split
  · exact h1
  · split
    · exact run_le h1
    · split
      · exact run_le h1
      · omega
theorem sk_le {tb : Nat → Nat} {len p : Nat} (h : p ≤ len) : sk tb len p ≤ len := run_le h
def nmv (tb : Nat → Nat) (b : Nat) : Nat → Nat
  | 1 => tb b - 48
  | 2 => (tb b - 48) * 10 + (tb (b + 1) - 48)
  | _ => 0
def nmq (tb : Nat → Nat) (len p : Nat) : Nat := nmv tb (sk tb len p) (run (dgt tb) len (sk tb len p) - sk tb len p)
/-- a number below bd comes next -/
def nmb (tb : Nat → Nat) (len p bd : Nat) : Bool := decide (tkn tb len p = -2 ∧ vln tb len p 0 < nI bd)
theorem tkW_n2 {tb : Nat → Nat} {b f : Nat} (h : tb b < 256) : ¬ tkW tb b f = -2 := by
  simp only [tkW]
  split
  · intro e
    have h1 := nI_toInt (n := tb b) (by omega)
    rw [e] at h1
    have h2 : (-2 : Int32).toInt = -2 := by decide
    omega
  · split <;> decide
theorem nI_m2 {n : Nat} (h : n < 2 ^ 31) : ¬ nI n = -2 := fun e => by
  have h1 := nI_toInt h
  rw [e] at h1
  have h2 : (-2 : Int32).toInt = -2 := by decide
  omega
theorem tkn_num {tb : Nat → Nat} {len p : Nat} (htb : ∀ j, j < len → tb j < 256) (h : tkn tb len p = -2) : sk tb len p < len ∧ dgt tb (sk tb len p) = true ∧ ¬ ltr tb (sk tb len p) = true := by
  simp only [tkn, nxT] at h
  split at h
  · exact absurd h (by decide)
  · split at h
    · exact absurd h (tkW_n2 (htb _ (by omega)))
    · split at h
      · exact ⟨by simp only [sk]; omega, by assumption, by assumption⟩
      · exact absurd h (nI_m2 (by have := htb (run (bl tb) len p) (by omega); omega))
theorem nmb_val {tb : Nat → Nat} {len p bd : Nat} (htb : ∀ j, j < len → tb j < 256) (hb : bd ≤ 100) (h : nmb tb len p bd = true) : (∀ v, vln tb len p v = nI (nmq tb len p)) ∧ nmq tb len p < bd := by
  obtain ⟨h1, h2⟩ := of_decide_eq_true h
  obtain ⟨a1, a2, a3⟩ := tkn_num htb h1
  have hv : ∀ v, vln tb len p v = nvl tb (sk tb len p) (run (dgt tb) len (sk tb len p) - sk tb len p) := fun v => by
    have h1 : ¬ len ≤ run (bl tb) len p := by have : sk tb len p < len := a1; simp only [sk] at this; omega
    have b2 : dgt tb (run (bl tb) len p) = true := a2
    have b3 : ¬ ltr tb (run (bl tb) len p) = true := a3
    simp only [vln, nxV, if_neg h1]
    rw [if_neg b3, if_pos b2]; rfl
  have hge := run_go (P := dgt tb) a1 a2
  have hg2 := run_ge (dgt tb) len (sk tb len p + 1)
  rw [hv 0] at h2
  generalize hm : run (dgt tb) len (sk tb len p) - sk tb len p = m at hv h2
  have hm1 : 1 ≤ m := by omega
  have t0 := htb _ a1
  have big : ¬ nI 100 < nI bd := fun h9 => by
    have := (nI_ltI (by omega) (by omega)).mp h9
    omega
  match m, hm, hm1, h2 with
  | 1, hm, _, h2 =>
    refine ⟨fun v => by rw [hv v, nmq, hm]; rfl, ?_⟩
    rw [nmq, hm]
    exact (nI_ltI (by simp only [nmv]; omega) (by omega)).mp h2
  | 2, hm, _, h2 =>
    have t1 := htb (sk tb len p + 1) (by
      have h9 : run (dgt tb) len (sk tb len p) ≤ len := run_le (by omega)
      omega)
    refine ⟨fun v => by rw [hv v, nmq, hm]; rfl, ?_⟩
    rw [nmq, hm]
    exact (nI_ltI (by simp only [nmv]; omega) (by omega)).mp h2
  | k + 3, hm, _, h2 => exact absurd h2 big

abbrev rm_c_X7_next2 : Room := rm_c_X7_next
theorem c_X7_next2 (l : Launch) (G : GG) (z : Nat) (ad : Nat → Nat) (M : Mem) {aa : Nat} {bg : Nat} {tk : Int32} {vl : Int32} {len : Nat} {tb : Nat → Nat} (h22 : M 22 = some (cReader ad aa bg tk vl)) (h1 : M 1 = some (cTape ad len)) (h2 : M 2 = some (aI G 400 (nF tb))) (hl4 : len ≤ 400) (htb : ∀ j, j < len → tb j < 256) (ha9 : aa ≤ len) : Met l yX7_next wsX7_next rm_c_X7_next2 (Pr G z ad M [.ref (ad 22), .ref (ad 1)]) (Nv G z ad (fun (M' : Mem) => M' 22 = some (cReader ad (ps tb len aa) (sk tb len aa) (tkn tb len aa) (vln tb len aa vl)) ∧ (∀ j : Nat, j ≠ 22 → M' j = M j))) 0 0 (fr z) := c_X7_next l G z ad M h22 h1 h2 hl4 htb ha9

theorem vln_eq {tb : Nat → Nat} {len p : Nat} (htb : ∀ j, j < len → tb j < 256) (h : tkn tb len p = -2) (v w : Int32) : vln tb len p v = vln tb len p w := by
  obtain ⟨a1, a2, a3⟩ := tkn_num htb h
  have h1 : ¬ len ≤ run (bl tb) len p := by have : sk tb len p < len := a1; simp only [sk] at this; omega
  have b2 : dgt tb (run (bl tb) len p) = true := a2
  have b3 : ¬ ltr tb (run (bl tb) len p) = true := a3
  simp only [vln, nxV, if_neg h1, if_neg b3, if_pos b2]
theorem rn_ok {tb : Nat → Nat} {len p bd : Nat} {vl : Int32} (h1 : tkn tb len p = -2) (htb : ∀ j, j < len → tb j < 256) (h2 : ¬ nI bd ≤ vln tb len p vl) : nI 1 = bI (nmb tb len p bd) := dec_t ⟨h1, by rw [vln_eq htb h1 0 vl]; exact i_nle h2⟩
theorem rn_no1 {tb : Nat → Nat} {len p bd : Nat} (h1 : ¬ tkn tb len p = -2) : nI 0 = bI (nmb tb len p bd) := dec_f (fun h => h1 h.1)
theorem rn_no2 {tb : Nat → Nat} {len p bd : Nat} {vl : Int32} (h1 : tkn tb len p = -2) (htb : ∀ j, j < len → tb j < 256) (h2 : nI bd ≤ vln tb len p vl) : nI 0 = bI (nmb tb len p bd) := dec_f (fun h => by rw [vln_eq htb h1 0 vl] at h; exact i_lnle h.2 h2)

/-- X7_readNumber -/
abbrev rm_c_X7_readNumber : Room := { frames := 3, cells := 0, slots := 0, locals := 64 }
set_option maxHeartbeats 4000000 in
set_option maxRecDepth 100000 in
theorem c_X7_readNumber (l : Launch) (G : GG) (z : Nat) (ad : Nat → Nat) (M : Mem) {aa : Nat} {bg : Nat} {tk : Int32} {vl : Int32} {len : Nat} {tb : Nat → Nat} {bd : Nat} (h22 : M 22 = some (cReader ad aa bg tk vl)) (h1 : M 1 = some (cTape ad len)) (h2 : M 2 = some (aI G 400 (nF tb))) (hl4 : len ≤ 400) (htb : ∀ j, j < len → tb j < 256) (ha9 : aa ≤ len) (hbd : bd ≤ 100) : Met l yX7_readNumber wsX7_readNumber rm_c_X7_readNumber (Pr G z ad M [.ref (ad 22), .ref (ad 1), .int (nI bd)]) (Ni G z ad (fun (r : Int32) (M' : Mem) => r = bI (nmb tb len aa bd) ∧ M' 22 = some (cReader ad (ps tb len aa) (sk tb len aa) (tkn tb len aa) (vln tb len aa vl)) ∧ (∀ j : Nat, j ≠ 22 → M' j = M j))) 0 0 (fr z) := by
  refine Met.ofW (cc := cX7_readNumber) (maxL := 3) (ret := (some .boolean)) (by decide) rfl ?_
  intro p e s m args below meth c s₁ B hml hv
  obtain ⟨rfl, hv⟩ := hv
  have hI := Iv.entry hv
  have hx := B.exec
  have hb := B.bytes
  have hr := B.returns
  have hts := atoms_spec (ws := wsX7_readNumber) B.pre
  have hown : s.vm.findClass RX7 = some m.cls := findClass_of_methodNamed B.named
  have hlocks := B.notSynchronized
  have i_RX7 : ∀ w ∈ u_ws RX7 TX7 4, w ∈ wsX7_readNumber := fun w h => List.mem_cons_of_mem _ (iu_X7 w h)
  have f_31 := hts _ (List.mem_cons_of_mem _ (lwg_of t_166 rfl))
  have f_38 := hts _ (List.mem_cons_of_mem _ (lwg_of t_167 rfl))
  have hl := lv_entry ([.ref (ad 22), .ref (ad 1), .int (nI bd)]) (n := 3) (Nat.le_of_ble_eq_true rfl)
  rw [lg_entry_eq]
  generalize (lg_sl ([.ref (ad 22), .ref (ad 1), .int (nI bd)]) ++ List.replicate (3 - (lg_sl ([.ref (ad 22), .ref (ad 1), .int (nI bd)])).length) Slot.unset).toArray = ls at hl ⊢
  have hl : lv_has ls 3 [(0, .ref (ad 22)), (1, .ref (ad 1)), (2, .int (nI bd))] := hl
  refine lv_aload_n hx hb dX7_readNumber_0 rfl (lv_at hl 0 rfl) ?_
  refine lv_aload_n hx hb dX7_readNumber_1 rfl (lv_at hl 1 rfl) ?_
  refine k_Nv (va_runV (As := [.ref (ad 1)]) (rest := []) ⟨hx, hb, hml, hown, hts⟩ (c_X7_next2 l G z ad M (aa := aa) (bg := bg) (tk := tk) (vl := vl) (len := len) (tb := tb) h22 h1 h2 (by omega) htb (by omega)) (cwV 1 hts (gV (lwg_of t_919 rfl) (lwg_of t_921 rfl) (lwg_of ts_16 rfl) (lwg_of t_10 rfl) (lwg_of t_922 rfl)) rfl rfl rfl (by decide +kernel) ⟨Nat.le_of_ble_eq_true rfl, Nat.le_of_ble_eq_true rfl⟩) (hI.preV h22 rfl) rfl rfl hl.1 rfl (lv_room (Nat.le_of_ble_eq_true rfl)) dX7_readNumber_2 ⟨Nat.le_of_ble_eq_true rfl, Nat.le_of_ble_eq_true rfl⟩) hI (fun M_3 H_4 locs_5 hp_2 hI => ?_)
  obtain ⟨hm_6, hF_7⟩ := hp_2
  have hm_8 : M_3 1 = some (cTape ad len) := by rw [hF_7 1 (by omega)]; exact h1
  have hm_9 : M_3 2 = some (aI G 400 (nF tb)) := by rw [hF_7 2 (by omega)]; exact h2
  have hF_10 : ∀ j : Nat, j ≠ 22 → M_3 j = M j := fun j q0 => (hF_7 j q0)
  refine lv_aload_n hx hb dX7_readNumber_5 rfl (lv_at hl 0 rfl) ?_
  refine h_get (C := RX7) (T := TX7) (N := 4) hx hb hts i_RX7 hown hI hm_6 rfl 2 (by decide) f_31 rfl rfl dX7_readNumber_6 ?_
  refine lv_bipush (v := (-2)) hx hb dX7_readNumber_9 (by decide) ?_
  refine lv_icmp_ne (tgt := 26) hx hb dX7_readNumber_11 (by decide) (fun c_11 => ?_) (fun c_11 => ?_)
  · -- 11: (tkn tb len aa) ne
    refine lv_iconst (v := nI 0) hx hb dX7_readNumber_26 (by decide) ?_
    exact e_Ni hx hb hr rfl hlocks hI ⟨rn_no1 (by assumption), hm_6, (fun j q0 => hF_10 j q0)⟩ dX7_readNumber_27
  · -- 11: (tkn tb len aa) eq
    refine lv_aload_n hx hb dX7_readNumber_14 rfl (lv_at hl 0 rfl) ?_
    refine h_get (C := RX7) (T := TX7) (N := 4) hx hb hts i_RX7 hown hI hm_6 rfl 3 (by decide) f_38 rfl rfl dX7_readNumber_15 ?_
    refine lv_iload_n hx hb dX7_readNumber_18 rfl (lv_at hl 2 rfl) ?_
    refine lv_icmp_ge (tgt := 26) hx hb dX7_readNumber_19 (by decide) (fun c_12 => ?_) (fun c_12 => ?_)
    · -- 19: (vln tb len aa vl) ge
      refine lv_iconst (v := nI 0) hx hb dX7_readNumber_26 (by decide) ?_
      exact e_Ni hx hb hr rfl hlocks hI ⟨rn_no2 (by assumption) htb (by assumption), hm_6, (fun j q0 => hF_10 j q0)⟩ dX7_readNumber_27
    · -- 19: (vln tb len aa vl) lt
      refine lv_iconst (v := nI 1) hx hb dX7_readNumber_22 (by decide) ?_
      refine lv_goto (tgt := 27) hx hb dX7_readNumber_23 (by decide) ?_
      exact e_Ni hx hb hr rfl hlocks hI ⟨rn_ok (by assumption) htb (by assumption), hm_6, (fun j q0 => hF_10 j q0)⟩ dX7_readNumber_27
