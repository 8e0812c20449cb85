def onD (ff lf : Nat → Int32) (d : Int32) (m : Nat) : Nat := cntB (fun j => decide (ff j ≤ d ∧ d ≤ lf j)) m
def dOf (a b : Int32) : Int32 := if a < b then b else a
def fdM (ff lf : Nat → Int32) (b : Int32) (sp : Nat) : Nat → Nat
  | 0 => 0
  | m + 1 => max (fdM ff lf b sp m) (onD ff lf (dOf (ff m) b) sp)
theorem fdM_le (ff lf : Nat → Int32) (b : Int32) (sp m : Nat) : fdM ff lf b sp m ≤ sp := by
  induction m with
  | zero => exact Nat.zero_le _
  | succ m ih => have := cntB_le (fun j => decide (ff j ≤ dOf (ff m) b ∧ dOf (ff m) b ≤ lf j)) sp; simp only [fdM, onD]; omega
theorem fdM_iff {ff lf : Nat → Int32} {b : Int32} {sp m mo : Nat} (h0 : 0 < mo) : mo ≤ fdM ff lf b sp m ↔ ∃ i, i < m ∧ mo ≤ onD ff lf (dOf (ff i) b) sp := by
  induction m with
  | zero => exact ⟨fun h => absurd h (by simp only [fdM]; omega), fun ⟨i, h, _⟩ => absurd h (Nat.not_lt_zero i)⟩
  | succ m ih =>
    simp only [fdM]
    constructor
    · intro h
      by_cases h1 : mo ≤ fdM ff lf b sp m
      · obtain ⟨i, h2, h3⟩ := ih.mp h1
        exact ⟨i, by omega, h3⟩
      · exact ⟨m, by omega, by omega⟩
    · rintro ⟨i, h2, h3⟩
      by_cases h1 : i = m
      · subst h1; omega
      · have := ih.mpr ⟨i, by omega, h3⟩
        omega
theorem onD_t {ff lf : Nat → Int32} {d : Int32} {j : Nat} (h1 : ¬ d < ff j) (h2 : ¬ lf j < d) : onD ff lf d (j + 1) = onD ff lf d j + 1 := cntB_t (decide_eq_true ⟨i_nlt h1, i_nlt h2⟩)
theorem onD_f1 {ff lf : Nat → Int32} {d : Int32} {j : Nat} (h1 : d < ff j) : onD ff lf d (j + 1) = onD ff lf d j := cntB_f (decide_eq_false (fun h => i_lnle h1 h.1))
theorem onD_f2 {ff lf : Nat → Int32} {d : Int32} {j : Nat} (h1 : lf j < d) : onD ff lf d (j + 1) = onD ff lf d j := cntB_f (decide_eq_false (fun h => i_lnle h1 h.2))

/-- X3_fullestDay -/
abbrev rm_c_X3_fullestDay : Room := { frames := 1, cells := 0, slots := 0, locals := 30 }
set_option maxHeartbeats 4000000 in
set_option maxRecDepth 100000 in
theorem c_X3_fullestDay (l : Launch) (G : GG) (z : Nat) (ad : Nat → Nat) (M : Mem) {ff : Nat → Int32} {lf : Nat → Int32} {sp : Nat} {b : Int32} (h16 : M 16 = some (cLines ad )) (h20 : M 20 = some (aI G 120 ff)) (h21 : M 21 = some (aI G 120 lf)) (hsp : sp ≤ 120) : Met l yX3_fullestDay wsX3_fullestDay rm_c_X3_fullestDay (Pr G z ad M [.ref (ad 16), .int (nI sp), .int b]) (vp_Si (fun r : Int32 => r = nI (fdM ff lf b sp sp))) 0 0 (fun _ => False) := by
  refine Met.ofW (cc := cX3_fullestDay) (maxL := 8) (ret := (some .int)) (by decide) rfl ?_
  intro p e s m args below meth c s₁ B hml hv
  obtain ⟨rfl, hv⟩ := hv
  have hI := Iv.entry hv
  have hx := B.exec
  have hb := B.bytes
  have hr := B.returns
  have hts := atoms_spec (ws := wsX3_fullestDay) B.pre
  have hown : s.vm.findClass RX3 = some m.cls := findClass_of_methodNamed B.named
  have hlocks := B.notSynchronized
  have i_RX3 : ∀ w ∈ u_ws RX3 TX3 4, w ∈ wsX3_fullestDay := fun w h => List.mem_cons_of_mem _ (iu_X3 w h)
  have f_22 := hts _ (List.mem_cons_of_mem _ (lwg_of t_147 rfl))
  have m_107 := hts _ (List.mem_cons_of_mem _ (lwg_of t_748 rfl))
  have s_mmax := hts _ (List.mem_cons_of_mem _ (lwg_of t_737 rfl))
  have s_mi := hts _ (List.mem_cons_of_mem _ (lwg_of t_14 rfl))
  have s_mcmax := hts _ (List.mem_cons_of_mem _ (lwg_of t_738 rfl))
  have f_26 := hts _ (List.mem_cons_of_mem _ (lwg_of t_148 rfl))
  have hl := lv_entry ([.ref (ad 16), .int (nI sp), .int b]) (n := 8) (Nat.le_of_ble_eq_true rfl)
  rw [lg_entry_eq]
  generalize (lg_sl ([.ref (ad 16), .int (nI sp), .int b]) ++ List.replicate (8 - (lg_sl ([.ref (ad 16), .int (nI sp), .int b])).length) Slot.unset).toArray = ls at hl ⊢
  have hl : lv_has ls 8 [(0, .ref (ad 16)), (1, .int (nI sp)), (2, .int b)] := hl
  refine w_q (fun Q hQ => ?_)
  refine lv_iconst (v := nI 0) hx hb dX3_fullestDay_0 (by decide) ?_
  refine lv_istore_n (lv' := [(3, .int (nI 0)), (0, .ref (ad 16)), (1, .int (nI sp)), (2, .int b)]) hx hb dX3_fullestDay_1 rfl hl (by decide) rfl (fun ls hl => ?_)
  refine lv_iconst (v := nI 0) hx hb dX3_fullestDay_2 (by decide) ?_
  refine lv_istore (lv' := [(4, .int (nI 0)), (3, .int (nI 0)), (0, .ref (ad 16)), (1, .int (nI sp)), (2, .int b)]) hx hb dX3_fullestDay_3 hl (by decide) rfl (fun ls hl => ?_)
  have lp5_1 : ∀ (fuel : Nat) (i : Nat) (fu : Nat) (ls : Array Slot), (sp - i) < fuel → (i ≤ sp) → (fu = fdM ff lf b sp i) → lv_has ls 8 [(0, .ref (ad 16)), (1, .int (nI sp)), (2, .int b), (3, .int (nI fu)), (4, .int (nI i))] → W p l e (headSpec wsX3_fullestDay rm_c_X3_fullestDay).room s m ([.ref (ad 16), .int (nI sp), .int b] : List Value).toArray below meth c s.heap [] 0 0 Q (F0 m 5 ls []) := by
    intro fuel
    induction fuel with
    | zero => intro i fu ls hfu hi hfu2 hl; exact absurd hfu (Nat.not_lt_zero _)
    | succ fuel ih_2 =>
      intro i fu ls hfu hi hfu2 hl
      have hle := fdM_le ff lf b sp i
      refine lv_iload hx hb dX3_fullestDay_5 (lv_at hl 4 rfl) ?_
      refine lv_iload_n hx hb dX3_fullestDay_7 rfl (lv_at hl 1 rfl) ?_
      refine lv_icmp_ge (tgt := 82) hx hb dX3_fullestDay_8 (by decide) (fun c_3 => ?_) (fun c_3 => ?_)
      · -- 8: nI i ge
        have c_3 : sp ≤ i := (nI_leI (a := sp) (b := i) (by omega) (by omega)).mp (c_3)
        refine lv_iload_n hx hb dX3_fullestDay_82 rfl (lv_at hl 3 rfl) ?_
        subst hQ
        exact e_Ri hx hb hr rfl hlocks (by rw [hfu2, show i = sp by omega]) dX3_fullestDay_83
      · -- 8: nI i lt
        have c_3 : i < sp := by have h := mt (nI_leI (a := sp) (b := i) (by omega) (by omega)).mpr c_3; omega
        refine lv_aload_n hx hb dX3_fullestDay_11 rfl (lv_at hl 0 rfl) ?_
        refine h_get (C := RX3) (T := TX3) (N := 4) hx hb hts i_RX3 hown hI h16 rfl 2 (by decide) f_22 rfl rfl dX3_fullestDay_12 ?_
        refine lv_iload hx hb dX3_fullestDay_15 (lv_at hl 4 rfl) ?_
        refine h_iald (i := i) hx hb hI h20 (by omega) (by decide) dX3_fullestDay_17 ?_
        refine lv_iload_n hx hb dX3_fullestDay_18 rfl (lv_at hl 2 rfl) ?_
        refine va_mmax hx hb (by rw [hml]; exact hl.1.symm) hown m_107 s_mmax s_mi s_mcmax (Nat.le_of_ble_eq_true rfl) (Nat.le_of_ble_eq_true rfl) (Nat.le_of_ble_eq_true rfl) (Nat.le_of_ble_eq_true rfl) dX3_fullestDay_19 ?_
        refine n_eq (show _ = dOf (ff i) b from rfl) ?_
        refine lv_istore (lv' := [(5, .int (dOf (ff i) b)), (0, .ref (ad 16)), (1, .int (nI sp)), (2, .int b), (3, .int (nI fu)), (4, .int (nI i))]) hx hb dX3_fullestDay_22 hl (by decide) rfl (fun ls hl => ?_)
        refine lv_iconst (v := nI 0) hx hb dX3_fullestDay_24 (by decide) ?_
        refine lv_istore (lv' := [(6, .int (nI 0)), (5, .int (dOf (ff i) b)), (0, .ref (ad 16)), (1, .int (nI sp)), (2, .int b), (3, .int (nI fu)), (4, .int (nI i))]) hx hb dX3_fullestDay_25 hl (by decide) rfl (fun ls hl => ?_)
        refine lv_iconst (v := nI 0) hx hb dX3_fullestDay_27 (by decide) ?_
        refine lv_istore (lv' := [(7, .int (nI 0)), (6, .int (nI 0)), (5, .int (dOf (ff i) b)), (0, .ref (ad 16)), (1, .int (nI sp)), (2, .int b), (3, .int (nI fu)), (4, .int (nI i))]) hx hb dX3_fullestDay_28 hl (by decide) rfl (fun ls hl => ?_)
        have lp30_4 : ∀ (fuel : Nat) (j : Nat) (on : Nat) (ls : Array Slot), (sp - j) < fuel → (j ≤ sp) → (on = onD ff lf (dOf (ff i) b) j) → lv_has ls 8 [(0, .ref (ad 16)), (1, .int (nI sp)), (2, .int b), (3, .int (nI fu)), (4, .int (nI i)), (5, .int (dOf (ff i) b)), (6, .int (nI on)), (7, .int (nI j))] → W p l e (headSpec wsX3_fullestDay rm_c_X3_fullestDay).room s m ([.ref (ad 16), .int (nI sp), .int b] : List Value).toArray below meth c s.heap [] 0 0 Q (F0 m 30 ls []) := by
          intro fuel
          induction fuel with
          | zero => intro j on ls hfu hj hon hl; exact absurd hfu (Nat.not_lt_zero _)
          | succ fuel ih_5 =>
            intro j on ls hfu hj hon hl
            have hle2 : on ≤ j := by rw [hon]; exact cntB_le _ j
            refine lv_iload hx hb dX3_fullestDay_30 (lv_at hl 7 rfl) ?_
            refine lv_iload_n hx hb dX3_fullestDay_32 rfl (lv_at hl 1 rfl) ?_
            refine lv_icmp_ge (tgt := 69) hx hb dX3_fullestDay_33 (by decide) (fun c_6 => ?_) (fun c_6 => ?_)
            · -- 33: nI j ge
              have c_6 : sp ≤ j := (nI_leI (a := sp) (b := j) (by omega) (by omega)).mp (c_6)
              refine lv_iload_n hx hb dX3_fullestDay_69 rfl (lv_at hl 3 rfl) ?_
              refine lv_iload hx hb dX3_fullestDay_70 (lv_at hl 6 rfl) ?_
              refine va_mmax hx hb (by rw [hml]; exact hl.1.symm) hown m_107 s_mmax s_mi s_mcmax (Nat.le_of_ble_eq_true rfl) (Nat.le_of_ble_eq_true rfl) (Nat.le_of_ble_eq_true rfl) (Nat.le_of_ble_eq_true rfl) dX3_fullestDay_72 ?_
              refine n_eq (show _ = nI (max fu on) from mmax_n (by omega) (by omega)) ?_
              refine lv_istore_n (lv' := [(3, .int (nI (max fu on))), (0, .ref (ad 16)), (1, .int (nI sp)), (2, .int b), (4, .int (nI i)), (5, .int (dOf (ff i) b)), (6, .int (nI on)), (7, .int (nI j))]) hx hb dX3_fullestDay_75 rfl hl (by decide) rfl (fun ls hl => ?_)
              refine lv_iinc (v := nI (i + 1)) (lv' := [(4, .int (nI (i + 1))), (3, .int (nI (max fu on))), (0, .ref (ad 16)), (1, .int (nI sp)), (2, .int b), (5, .int (dOf (ff i) b)), (6, .int (nI on)), (7, .int (nI j))]) hx hb dX3_fullestDay_76 hl (k := 4) rfl (nI_add i 1) (by decide) rfl (fun ls hl => ?_)
              refine lv_goto (tgt := 5) hx hb dX3_fullestDay_79 (by decide) ?_
              exact ih_2 (i + 1) (max fu on) ls (by omega) (by omega) (by rw [fdM, hfu2, hon, show sp = j by omega]) (lv_sub hl [2, 3, 4, 1, 0] rfl)
            · -- 33: nI j lt
              have c_6 : j < sp := by have h := mt (nI_leI (a := sp) (b := j) (by omega) (by omega)).mpr c_6; omega
              refine lv_aload_n hx hb dX3_fullestDay_36 rfl (lv_at hl 0 rfl) ?_
              refine h_get (C := RX3) (T := TX3) (N := 4) hx hb hts i_RX3 hown hI h16 rfl 2 (by decide) f_22 rfl rfl dX3_fullestDay_37 ?_
              refine lv_iload hx hb dX3_fullestDay_40 (lv_at hl 7 rfl) ?_
              refine h_iald (i := j) hx hb hI h20 (by omega) (by decide) dX3_fullestDay_42 ?_
              refine lv_iload hx hb dX3_fullestDay_43 (lv_at hl 5 rfl) ?_
              refine lv_icmp_gt (tgt := 63) hx hb dX3_fullestDay_45 (by decide) (fun c_7 => ?_) (fun c_7 => ?_)
              · -- 45: ff j gt
                refine lv_iinc (v := nI (j + 1)) (lv' := [(7, .int (nI (j + 1))), (0, .ref (ad 16)), (1, .int (nI sp)), (2, .int b), (3, .int (nI fu)), (4, .int (nI i)), (5, .int (dOf (ff i) b)), (6, .int (nI on))]) hx hb dX3_fullestDay_63 hl (k := 7) rfl (nI_add j 1) (by decide) rfl (fun ls hl => ?_)
                refine lv_goto (tgt := 30) hx hb dX3_fullestDay_66 (by decide) ?_
                exact ih_5 (j + 1) on ls (by omega) (by omega) (by rw [onD_f1 (by assumption), hon]) (lv_sub hl [1, 2, 3, 4, 5, 6, 7, 0] rfl)
              · -- 45: ff j le
                refine lv_iload hx hb dX3_fullestDay_48 (lv_at hl 5 rfl) ?_
                refine lv_aload_n hx hb dX3_fullestDay_50 rfl (lv_at hl 0 rfl) ?_
                refine h_get (C := RX3) (T := TX3) (N := 4) hx hb hts i_RX3 hown hI h16 rfl 3 (by decide) f_26 rfl rfl dX3_fullestDay_51 ?_
                refine lv_iload hx hb dX3_fullestDay_54 (lv_at hl 7 rfl) ?_
                refine h_iald (i := j) hx hb hI h21 (by omega) (by decide) dX3_fullestDay_56 ?_
                refine lv_icmp_gt (tgt := 63) hx hb dX3_fullestDay_57 (by decide) (fun c_8 => ?_) (fun c_8 => ?_)
                · -- 57: dOf (ff i) b gt
                  refine lv_iinc (v := nI (j + 1)) (lv' := [(7, .int (nI (j + 1))), (0, .ref (ad 16)), (1, .int (nI sp)), (2, .int b), (3, .int (nI fu)), (4, .int (nI i)), (5, .int (dOf (ff i) b)), (6, .int (nI on))]) hx hb dX3_fullestDay_63 hl (k := 7) rfl (nI_add j 1) (by decide) rfl (fun ls hl => ?_)
                  refine lv_goto (tgt := 30) hx hb dX3_fullestDay_66 (by decide) ?_
                  exact ih_5 (j + 1) on ls (by omega) (by omega) (by rw [onD_f2 (by assumption), hon]) (lv_sub hl [1, 2, 3, 4, 5, 6, 7, 0] rfl)
                · -- 57: dOf (ff i) b le
                  refine lv_iinc (v := nI (on + 1)) (lv' := [(6, .int (nI (on + 1))), (0, .ref (ad 16)), (1, .int (nI sp)), (2, .int b), (3, .int (nI fu)), (4, .int (nI i)), (5, .int (dOf (ff i) b)), (7, .int (nI j))]) hx hb dX3_fullestDay_60 hl (k := 6) rfl (nI_add on 1) (by decide) rfl (fun ls hl => ?_)
                  refine lv_iinc (v := nI (j + 1)) (lv' := [(7, .int (nI (j + 1))), (6, .int (nI (on + 1))), (0, .ref (ad 16)), (1, .int (nI sp)), (2, .int b), (3, .int (nI fu)), (4, .int (nI i)), (5, .int (dOf (ff i) b))]) hx hb dX3_fullestDay_63 hl (k := 7) rfl (nI_add j 1) (by decide) rfl (fun ls hl => ?_)
                  refine lv_goto (tgt := 30) hx hb dX3_fullestDay_66 (by decide) ?_
                  exact ih_5 (j + 1) (on + 1) ls (by omega) (by omega) (by rw [onD_t (by assumption) (by assumption), hon]) (lv_sub hl [2, 3, 4, 5, 6, 7, 1, 0] rfl)
        exact lp30_4 ((sp - 0) + 1) 0 0 ls (Nat.lt_succ_self _) (by omega) (rfl) (lv_sub hl [3, 4, 5, 6, 7, 2, 1, 0] rfl)
  exact lp5_1 ((sp - 0) + 1) 0 0 ls (Nat.lt_succ_self _) (by omega) (rfl) (lv_sub hl [2, 3, 4, 1, 0] rfl)

/-- the lines that mostAtOnce takes -/
def sel (kd : Nat → Nat) (fm to : Nat → Int32) (sz : Nat → Nat) (rl en : Nat → Nat → Nat) (lst : Nat → Nat) (t q x : Nat) (f0 t0 : Int32) (l : Nat) : Bool := decide (kd l = q) && (decide ((if fm l < f0 then f0 else fm l) ≤ (if t0 < to l then t0 else to l)) && hsT (rl l) (thE (en l)) lst x (sz l) t)
def mIv (se : Nat → Bool) (fm to : Nat → Int32) (sp : Nat) (ff lf : Nat → Int32) (i : Nat) : Prop := sp ≤ i ∧ (∀ d, onD ff lf d sp = cntB (fun l => se l && decide (fm l ≤ d ∧ d ≤ to l)) i) ∧ (∀ j, j < sp → ∃ l, l < i ∧ se l = true ∧ ff j = fm l ∧ lf j = to l) ∧ ∀ l, l < i → se l = true → ∃ j, j < sp ∧ ff j = fm l
theorem mIv_0 {se : Nat → Bool} {fm to ff lf : Nat → Int32} : mIv se fm to 0 ff lf 0 := ⟨Nat.le_refl 0, fun _ => rfl, fun j hj => absurd hj (Nat.not_lt_zero j), fun l hl => absurd hl (Nat.not_lt_zero l)⟩
theorem mIv_no {se : Nat → Bool} {fm to ff lf : Nat → Int32} {sp i : Nat} (h : mIv se fm to sp ff lf i) (hs : se i = false) : mIv se fm to sp ff lf (i + 1) := by
  obtain ⟨h1, h2, h3, h4⟩ := h
  refine ⟨by omega, fun d => ?_, fun j hj => ?_, fun l hl hse => ?_⟩
  · rw [cntB_f (by simp [hs])]; exact h2 d
  · obtain ⟨l, a, b⟩ := h3 j hj
    exact ⟨l, by omega, b⟩
  · by_cases hli : l = i
    · subst hli; rw [hs] at hse; cases hse
    · exact h4 l (by omega) hse
theorem cntB_congr {p q : Nat → Bool} {n : Nat} (h : ∀ i, i < n → p i = q i) : cntB p n = cntB q n := by
  induction n with
  | zero => rfl
  | succ n ih => simp only [cntB, h n (by omega), ih (fun i hi => h i (by omega))]
theorem mIv_yes {se : Nat → Bool} {fm to ff lf : Nat → Int32} {sp i : Nat} (h : mIv se fm to sp ff lf i) (hs : se i = true) : mIv se fm to (sp + 1) (upd ff sp (fm i)) (upd lf sp (to i)) (i + 1) := by
  obtain ⟨h1, h2, h3, h4⟩ := h
  have e1 : upd ff sp (fm i) sp = fm i := pk_us
  have e2 : upd lf sp (to i) sp = to i := pk_us
  have n1 : ∀ j, j < sp → upd ff sp (fm i) j = ff j := fun j hj => pk_un (by omega)
  have n2 : ∀ j, j < sp → upd lf sp (to i) j = lf j := fun j hj => pk_un (by omega)
  refine ⟨by omega, fun d => ?_, fun j hj => ?_, fun l hl hse => ?_⟩
  · have h5 : onD (upd ff sp (fm i)) (upd lf sp (to i)) d sp = onD ff lf d sp := cntB_congr (fun j hj => by rw [n1 j hj, n2 j hj])
    have h6 := h2 d
    simp only [onD, cntB, hs, Bool.true_and, e1, e2] at h5 h6 ⊢
    rw [h5, h6]
  · by_cases hj2 : j = sp
    · subst hj2; exact ⟨i, by omega, hs, e1, e2⟩
    · obtain ⟨l, a, b, c1, c2⟩ := h3 j (by omega)
      exact ⟨l, by omega, b, by rw [n1 j (by omega)]; exact c1, by rw [n2 j (by omega)]; exact c2⟩
  · by_cases hli : l = i
    · subst hli; exact ⟨sp, by omega, e1⟩
    · obtain ⟨j, a, b⟩ := h4 l (by omega) hse
      exact ⟨j, by omega, by rw [n1 j a]; exact b⟩
theorem cntB_mono {p q : Nat → Bool} {n : Nat} (h : ∀ i, i < n → p i = true → q i = true) : cntB p n ≤ cntB q n := by
  induction n with
  | zero => exact Nat.le_refl _
  | succ n ih =>
    have h1 := ih (fun i hi => h i (by omega))
    simp only [cntB]
    by_cases hp : p n = true
    · rw [if_pos hp, if_pos (h n (by omega) hp)]; omega
    · rw [if_neg hp]; split <;> omega
theorem cntB_ex {p : Nat → Bool} {n : Nat} (h : 0 < cntB p n) : ∃ i, i < n ∧ p i = true := by
  induction n with
  | zero => exact absurd h (Nat.lt_irrefl 0)
  | succ n ih =>
    by_cases hp : p n = true
    · exact ⟨n, by omega, hp⟩
    · simp only [cntB, if_neg hp] at h
      obtain ⟨i, a, b⟩ := ih h
      exact ⟨i, by omega, b⟩
/-- of the lines that are p the one that begins last -/
theorem last_of {p : Nat → Bool} {fm : Nat → Int32} {n : Nat} (h : ∃ i, i < n ∧ p i = true) : ∃ i, i < n ∧ p i = true ∧ ∀ j, j < n → p j = true → fm j ≤ fm i := by
  induction n with
  | zero => obtain ⟨i, a, _⟩ := h; exact absurd a (Nat.not_lt_zero i)
  | succ n ih =>
    by_cases h2 : ∃ i, i < n ∧ p i = true
    · obtain ⟨i, a, b, c⟩ := ih h2
      by_cases hp : p n = true
      · by_cases hle : fm n ≤ fm i
        · exact ⟨i, by omega, b, fun j hj hpj => by
            by_cases e : j = n
            · subst e; exact hle
            · exact c j (by omega) hpj⟩
        · refine ⟨n, by omega, hp, fun j hj hpj => ?_⟩
          by_cases e : j = n
          · subst e; exact Int32.le_refl _
          · exact Int32.le_trans (c j (by omega) hpj) (Int32.le_of_lt (i_nle hle))
      · exact ⟨i, by omega, b, fun j hj hpj => c j (by
          by_cases e : j = n
          · subst e; exact absurd hpj hp
          · omega) hpj⟩
    · obtain ⟨i, a, b⟩ := h
      have e : i = n := by
        by_cases e : i = n
        · exact e
        · exact absurd ⟨i, by omega, b⟩ h2
      subst e
      exact ⟨i, by omega, b, fun j hj hpj => by
        by_cases e : j = i
        · subst e; exact Int32.le_refl _
        · exact absurd ⟨j, by omega, hpj⟩ h2⟩
