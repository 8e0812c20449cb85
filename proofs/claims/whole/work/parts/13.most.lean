theorem dmx {a b c : Int32} : (if a < b then b else a) ≤ c ↔ a ≤ c ∧ b ≤ c := by
  simp only [Int32.lt_iff_toInt_lt, Int32.le_iff_toInt_le]
  split <;> constructor <;> intro h <;> omega
theorem dmn {a b c : Int32} : c ≤ (if b < a then b else a) ↔ c ≤ a ∧ c ≤ b := by
  simp only [Int32.lt_iff_toInt_lt, Int32.le_iff_toInt_le]
  split <;> constructor <;> intro h <;> omega
theorem dOf_ge {a b : Int32} : a ≤ dOf a b ∧ b ≤ dOf a b := dmx.mp (Int32.le_refl _)
section SE
variable {kd : Nat → Nat} {fm to : Nat → Int32} {sz : Nat → Nat} {rl en : Nat → Nat → Nat} {lst : Nat → Nat} {t q x : Nat} {f0 t0 : Int32} {l : Nat} {r : Int64}
theorem sel_n1 (h : kd l ≠ q) : sel kd fm to sz rl en lst t q x f0 t0 l = false := by simp [sel, h]
theorem sel_n2 (h : decide ((if fm l < f0 then f0 else fm l) ≤ (if t0 < to l then t0 else to l)) = false) : sel kd fm to sz rl en lst t q x f0 t0 l = false := by simp only [sel, h, Bool.false_and, Bool.and_false]
theorem sel_n3 (hp : ∀ t, inS r t = true ↔ tS (rl l) (thE (en l)) lst x (sz l) t) (h : inS r t = false) : sel kd fm to sz rl en lst t q x f0 t0 l = false := by simp only [sel, ← hsT_in hp, h, Bool.and_false]
theorem sel_y (h1 : kd l = q) (h2 : decide ((if fm l < f0 then f0 else fm l) ≤ (if t0 < to l then t0 else to l)) = true) (hp : ∀ t, inS r t = true ↔ tS (rl l) (thE (en l)) lst x (sz l) t) (h : inS r t = true) : sel kd fm to sz rl en lst t q x f0 t0 l = true := by simp only [sel, ← hsT_in hp, h, h1, h2, decide_true, Bool.and_true]
theorem sel_iff : sel kd fm to sz rl en lst t q x f0 t0 l = true ↔ kd l = q ∧ (fm l ≤ to l ∧ fm l ≤ t0 ∧ f0 ≤ to l ∧ f0 ≤ t0) ∧ hsT (rl l) (thE (en l)) lst x (sz l) t = true := by
  simp only [sel, Bool.and_eq_true, decide_eq_true_eq, dmx, dmn]
  constructor
  · rintro ⟨a, ⟨⟨b1, b2⟩, b3, b4⟩, c⟩; exact ⟨a, ⟨b1, b3, b2, b4⟩, c⟩
  · rintro ⟨a, ⟨b1, b2, b3, b4⟩, c⟩; exact ⟨a, ⟨⟨b1, b3⟩, b2, b4⟩, c⟩
theorem wth_iff {d : Int32} : wth kd fm to sz rl en lst t q x d l = true ↔ kd l = q ∧ (fm l ≤ d ∧ d ≤ to l) ∧ hsT (rl l) (thE (en l)) lst x (sz l) t = true := by
  simp only [wth, Bool.and_eq_true, decide_eq_true_eq]
theorem mIv_fin {n sp : Nat} {ff lf : Nat → Int32} (h : mIv (sel kd fm to sz rl en lst t q x f0 t0) fm to sp ff lf n) {mo : Nat} (h0 : 0 < mo) : mo ≤ fdM ff lf f0 sp sp ↔ ∃ d, f0 ≤ d ∧ d ≤ t0 ∧ mo ≤ cntB (wth kd fm to sz rl en lst t q x d) n := by
  obtain ⟨h1, h2, h3, h4⟩ := h
  rw [fdM_iff h0]
  constructor
  · rintro ⟨i, hi, hm⟩
    obtain ⟨l, hl, hs, e1, e2⟩ := h3 i hi
    obtain ⟨-, ⟨s1, s2, s3, s4⟩, -⟩ := sel_iff.mp hs
    refine ⟨dOf (ff i) f0, dOf_ge.2, by rw [e1]; exact dmx.mpr ⟨s2, s4⟩, Nat.le_trans hm ?_⟩
    rw [h2]
    refine cntB_mono (fun l' _ hl' => ?_)
    simp only [Bool.and_eq_true, decide_eq_true_eq] at hl'
    obtain ⟨a, -, c⟩ := sel_iff.mp hl'.1
    exact wth_iff.mpr ⟨a, hl'.2, c⟩
  · rintro ⟨d, hd1, hd2, hm⟩
    obtain ⟨l, hl, hp, hmax⟩ := last_of (fm := fm) (cntB_ex (p := wth kd fm to sz rl en lst t q x d) (n := n) (by omega))
    have toSel : ∀ l', wth kd fm to sz rl en lst t q x d l' = true → sel kd fm to sz rl en lst t q x f0 t0 l' = true := fun l' h' => by
      obtain ⟨a, ⟨b1, b2⟩, c⟩ := wth_iff.mp h'
      exact sel_iff.mpr ⟨a, ⟨Int32.le_trans b1 b2, Int32.le_trans b1 hd2, Int32.le_trans hd1 b2, Int32.le_trans hd1 hd2⟩, c⟩
    obtain ⟨j, hj, ej⟩ := h4 l hl (toSel l hp)
    refine ⟨j, hj, Nat.le_trans hm ?_⟩
    rw [h2]
    refine cntB_mono (fun l' hl' h' => ?_)
    simp only [Bool.and_eq_true, decide_eq_true_eq]
    obtain ⟨a, ⟨b1, b2⟩, c⟩ := wth_iff.mp h'
    obtain ⟨a2, ⟨b3, b4⟩, c2⟩ := wth_iff.mp hp
    refine ⟨toSel l' h', ?_, ?_⟩
    · rw [ej]; exact Int32.le_trans (hmax l' hl' h') dOf_ge.1
    · rw [ej]; exact Int32.le_trans (dmx.mpr ⟨b3, hd1⟩) b2
end SE

/-- X3_mostAtOnce -/
abbrev rm_c_X3_mostAtOnce : Room := { frames := 3, cells := 0, slots := 0, locals := 64 }
set_option maxHeartbeats 4000000 in
set_option maxRecDepth 100000 in
theorem c_X3_mostAtOnce (l : Launch) (G : GG) (z : Nat) (ad : Nat → Nat) (M : Mem) {n : Nat} {kd : Nat → Nat} {fm : Nat → Int32} {to : Nat → Int32} {sz : Nat → Nat} {rl : Nat → Nat → Nat} {en : Nat → Nat → Nat} {k : Nat} {q : Nat} {f0 : Int32} {t0 : Int32} {jn : Nat} {lst : Nat → Nat} {t : Nat} {x : Nat} {ff : Nat → Int32} {lf : Nat → Int32} (hL : LSm G ad M n kd fm to sz rl en) (hk : M k = some (cLine ad k q f0 t0)) (h8 : M 8 = some (cOnes ad jn)) (h10 : M 10 = some (aI G 40 (nF lst))) (h20 : M 20 = some (aI G 120 ff)) (h21 : M 21 = some (aI G 120 lf)) (hw : LSw n kd sz rl en) (hlst : ∀ u, u < 40 → lst u < 40) (ht : t < 40) (hq : q < 6) (hx6 : x < 6) (hkp : 100 ≤ k) : Met l yX3_mostAtOnce wsX3_mostAtOnce rm_c_X3_mostAtOnce (Pr G z ad M [.ref (ad 16), .ref (ad k), .int (nI x), .int (nI t), .ref (ad 8)]) (Ni G z ad (fun (r : Int32) (M' : Mem) => ∃ v : Nat, ∃ ff2 : Nat → Int32, ∃ lf2 : Nat → Int32, r = nI v ∧ M' 20 = some (aI G 120 ff2) ∧ M' 21 = some (aI G 120 lf2) ∧ (∀ j : Nat, j ≠ 20 → j ≠ 21 → M' j = M j) ∧ (v ≤ 120 ∧ ∀ mo, 0 < mo → (mo ≤ v ↔ ∃ d, f0 ≤ d ∧ d ≤ t0 ∧ mo ≤ cntB (wth kd fm to sz rl en lst t q x d) n)))) 0 0 (fr z) := by
  refine Met.ofW (cc := cX3_mostAtOnce) (maxL := 8) (ret := (some .int)) (by decide) rfl ?_
  intro p e s m args below meth c s₁ B hml hv
  obtain ⟨rfl, hv⟩ := hv
  have hI := Iv.entry hv
  have hx := B.exec
  have hb := B.bytes
  have hr := B.returns
  have hts := atoms_spec (ws := wsX3_mostAtOnce) B.pre
  have hown : s.vm.findClass RX3 = some m.cls := findClass_of_methodNamed B.named
  have hlocks := B.notSynchronized
  have i_RX3 : ∀ w ∈ u_ws RX3 TX3 4, w ∈ wsX3_mostAtOnce := fun w h => List.mem_cons_of_mem _ (iu_X3 w h)
  have f_12 := hts _ (List.mem_cons_of_mem _ (lwg_of t_145 rfl))
  have i_RX2 : ∀ w ∈ u_ws RX2 TX2 4, w ∈ wsX3_mostAtOnce := fun w h => List.mem_cons_of_mem _ (iu_X2 w h)
  have cl_37 := hts _ (List.mem_cons_of_mem _ (lwg_of t_350 rfl))
  have st_100 := hts _ (List.mem_cons_of_mem _ (lwg_of t_419 rfl))
  have si_100 := hts _ (List.mem_cons_of_mem _ (lwg_of t_1 rfl))
  have f_22 := hts _ (List.mem_cons_of_mem _ (lwg_of t_147 rfl))
  have f_26 := hts _ (List.mem_cons_of_mem _ (lwg_of t_148 rfl))
  have hl := lv_entry ([.ref (ad 16), .ref (ad k), .int (nI x), .int (nI t), .ref (ad 8)]) (n := 8) (Nat.le_of_ble_eq_true rfl)
  rw [lg_entry_eq]
  generalize (lg_sl ([.ref (ad 16), .ref (ad k), .int (nI x), .int (nI t), .ref (ad 8)]) ++ List.replicate (8 - (lg_sl ([.ref (ad 16), .ref (ad k), .int (nI x), .int (nI t), .ref (ad 8)])).length) Slot.unset).toArray = ls at hl ⊢
  have hl : lv_has ls 8 [(0, .ref (ad 16)), (1, .ref (ad k)), (2, .int (nI x)), (3, .int (nI t)), (4, .ref (ad 8))] := hl
  refine w_q (fun Q hQ => ?_)
  have h16 := hL.1
  obtain ⟨mcn, ed, h17, hed⟩ := id hL.2.1
  have hw1 := hw.1
  refine lv_iconst (v := nI 0) hx hb dX3_mostAtOnce_0 (by decide) ?_
  refine lv_istore (lv' := [(5, .int (nI 0)), (0, .ref (ad 16)), (1, .ref (ad k)), (2, .int (nI x)), (3, .int (nI t)), (4, .ref (ad 8))]) hx hb dX3_mostAtOnce_1 hl (by decide) rfl (fun ls hl => ?_)
  refine lv_iconst (v := nI 0) hx hb dX3_mostAtOnce_3 (by decide) ?_
  refine lv_istore (lv' := [(6, .int (nI 0)), (5, .int (nI 0)), (0, .ref (ad 16)), (1, .ref (ad k)), (2, .int (nI x)), (3, .int (nI t)), (4, .ref (ad 8))]) hx hb dX3_mostAtOnce_4 hl (by decide) rfl (fun ls hl => ?_)
  have lp6_1 : ∀ (fuel : Nat) (i : Nat) (sp : Nat) (fx : Nat → Int32) (lx : Nat → Int32) (Mx : Mem) (Hx : Heap) (locsx : List Loc) (ls : Array Slot), (n - i) < fuel → (i ≤ n) → (mIv (sel kd fm to sz rl en lst t q x f0 t0) fm to sp fx lx i) → Iv G z ad Mx s Hx locsx → Mx 20 = some (aI G 120 fx) → Mx 21 = some (aI G 120 lx) → (∀ j : Nat, j ≠ 20 → j ≠ 21 → Mx j = M j) → lv_has ls 8 [(0, .ref (ad 16)), (1, .ref (ad k)), (2, .int (nI x)), (3, .int (nI t)), (4, .ref (ad 8)), (5, .int (nI sp)), (6, .int (nI i))] → W p l e (headSpec wsX3_mostAtOnce rm_c_X3_mostAtOnce).room s m ([.ref (ad 16), .ref (ad k), .int (nI x), .int (nI t), .ref (ad 8)] : List Value).toArray below meth c Hx locsx 0 0 Q (F0 m 6 ls []) := by
    intro fuel
    induction fuel with
    | zero => intro i sp fx lx Mx Hx locsx ls hfu hi hm hI hm_2 hm_3 hF_5 hl; exact absurd hfu (Nat.not_lt_zero _)
    | succ fuel ih_6 =>
      intro i sp fx lx Mx Hx locsx ls hfu hi hm hI hm_2 hm_3 hF_5 hl
      have hm_7 : Mx k = some (cLine ad k q f0 t0) := by rw [hF_5 k (by omega) (by omega)]; exact hk
      have hm_8 : Mx 8 = some (cOnes ad jn) := by rw [hF_5 8 (by omega) (by omega)]; exact h8
      have hm_9 : Mx 10 = some (aI G 40 (nF lst)) := by rw [hF_5 10 (by omega) (by omega)]; exact h10
      have hm_10 : Mx 16 = some (cLines ad ) := by rw [hF_5 16 (by omega) (by omega)]; exact h16
      have hm_11 : Mx 17 = some (cList ad mcn ed n) := by rw [hF_5 17 (by omega) (by omega)]; exact h17
      have hL_12 : LSm G ad Mx n kd fm to sz rl en := hL.keep (fun j hj => hF_5 j (by omega) (by omega))
      have hw1 := hw.1
      have hsi := hm.1
      refine lv_iload hx hb dX3_mostAtOnce_6 (lv_at hl 6 rfl) ?_
      refine lv_aload_n hx hb dX3_mostAtOnce_8 rfl (lv_at hl 0 rfl) ?_
      refine h_get (C := RX3) (T := TX3) (N := 4) hx hb hts i_RX3 hown hI hm_10 rfl 0 (by decide) f_12 rfl rfl dX3_mostAtOnce_9 ?_
      refine k_Ri (va_runV (As := []) (rest := [.int (nI i)]) ⟨hx, hb, hml, hown, hts⟩ (c_Jx4a65c_size_8abf5 l G z ad Mx (n := n) hL_12.2.1) (cwV 0 hts (gV (lwg_of t_328 rfl) (lwg_of t_329 rfl) (lwg_of t_330 rfl) (lwg_of t_9 rfl) (lwg_of t_331 rfl)) rfl rfl rfl (by decide +kernel) ⟨Nat.le_of_ble_eq_true rfl, Nat.le_of_ble_eq_true rfl⟩) (hI.preV hm_11 rfl) rfl rfl hl.1 rfl (lv_room (Nat.le_of_ble_eq_true rfl)) dX3_mostAtOnce_12 ⟨Nat.le_of_ble_eq_true rfl, Nat.le_of_ble_eq_true rfl⟩) (fun _ h => h) (fun r_13 hp_14 => ?_)
      rw [hp_14]
      refine lv_icmp_ge (tgt := 111) hx hb dX3_mostAtOnce_15 (by decide) (fun c_15 => ?_) (fun c_15 => ?_)
      · -- 15: nI i ge
        have c_15 : n ≤ i := (nI_leI (a := n) (b := i) (by omega) (by omega)).mp (c_15)
        refine lv_aload_n hx hb dX3_mostAtOnce_111 rfl (lv_at hl 0 rfl) ?_
        refine lv_iload hx hb dX3_mostAtOnce_112 (lv_at hl 5 rfl) ?_
        refine lv_aload_n hx hb dX3_mostAtOnce_114 rfl (lv_at hl 1 rfl) ?_
        refine h_getN (C := RX2) (T := TX2) (N := 4) hx hb hts i_RX2 hown hI hm_7 rfl 1 (by decide) (nwf_at (i := 7) (q := ("LineStore$Lines", 58, "LineStore$Line", "from", "I", "LineStore")) hI rfl) rfl rfl dX3_mostAtOnce_115 ?_
        refine k_Ri (va_runV (As := [.int (nI sp), .int f0]) (rest := []) ⟨hx, hb, hml, hown, hts⟩ (c_X3_fullestDay l G z ad Mx (ff := fx) (lf := lx) (sp := sp) (b := f0) hm_10 hm_2 hm_3 (by omega)) (cwV 2 hts (gV (lwg_of t_744 rfl) (lwg_of t_746 rfl) (lwg_of ts_10 rfl) (lwg_of t_6 rfl) (lwg_of t_747 rfl)) rfl rfl rfl (by decide +kernel) ⟨Nat.le_of_ble_eq_true rfl, Nat.le_of_ble_eq_true rfl⟩) (hI.preV hm_10 rfl) rfl rfl hl.1 rfl (lv_room (Nat.le_of_ble_eq_true rfl)) dX3_mostAtOnce_118 ⟨Nat.le_of_ble_eq_true rfl, Nat.le_of_ble_eq_true rfl⟩) (fun _ h => h) (fun r_16 hp_17 => ?_)
        rw [hp_17]
        subst hQ
        exact e_Ni hx hb hr rfl hlocks hI ⟨fdM fx lx f0 sp sp, fx, lx, rfl, hm_2, hm_3, (fun j q0 q1 => hF_5 j q0 q1), ⟨Nat.le_trans (fdM_le fx lx f0 sp sp) (by omega), fun mo h0 => mIv_fin (by rw [show n = i by omega]; exact hm) h0⟩⟩ dX3_mostAtOnce_121
      · -- 15: nI i lt
        have c_15 : i < n := by have h := mt (nI_leI (a := n) (b := i) (by omega) (by omega)).mpr c_15; omega
        have hw1 := hw.1
        obtain ⟨hk6, hs6, hje⟩ := hw.2 i (by omega)
        refine lv_aload_n hx hb dX3_mostAtOnce_18 rfl (lv_at hl 0 rfl) ?_
        refine h_get (C := RX3) (T := TX3) (N := 4) hx hb hts i_RX3 hown hI hm_10 rfl 0 (by decide) f_12 rfl rfl dX3_mostAtOnce_19 ?_
        refine lv_iload hx hb dX3_mostAtOnce_22 (lv_at hl 6 rfl) ?_
        refine k_Rq (va_runV (As := [.int (nI i)]) (rest := []) ⟨hx, hb, hml, hown, hts⟩ (c_Jx4a65c_get_915e3 l G z ad Mx (n := n) (i := i) hL_12.2.1 (by omega) (by omega)) (cwV 1 hts (gV (lwg_of t_336 rfl) (lwg_of t_337 rfl) (lwg_of t_338 rfl) (lwg_of t_9 rfl) (lwg_of t_339 rfl)) rfl rfl rfl (by decide +kernel) ⟨Nat.le_of_ble_eq_true rfl, Nat.le_of_ble_eq_true rfl⟩) (hI.preV hm_11 rfl) rfl rfl hl.1 rfl (lv_room (Nat.le_of_ble_eq_true rfl)) dX3_mostAtOnce_24 ⟨Nat.le_of_ble_eq_true rfl, Nat.le_of_ble_eq_true rfl⟩) (fun _ h => h) (fun r_18 hp_19 => ?_)
        rw [hp_19]; show W _ _ _ _ _ _ _ _ _ _ _ _ _ _ _ (F0 m 27 ls (.ref (ad (100 + 5 * i)) :: []))
        refine h_cast (q := (RX2, TX2, 4)) hx hb hown cl_37 hI (hL_12.2.2 i (by omega)).1 rfl dX3_mostAtOnce_27 ?_
        refine lv_astore (lv' := [(7, .ref (ad (100 + 5 * i))), (0, .ref (ad 16)), (1, .ref (ad k)), (2, .int (nI x)), (3, .int (nI t)), (4, .ref (ad 8)), (5, .int (nI sp)), (6, .int (nI i))]) hx hb dX3_mostAtOnce_30 hl (by decide) rfl (fun ls hl => ?_)
        refine lv_aload hx hb dX3_mostAtOnce_32 (lv_at hl 0 rfl) ?_
        refine h_getN (C := RX2) (T := TX2) (N := 4) hx hb hts i_RX2 hown hI (hL_12.2.2 i (by omega)).1 rfl 0 (by decide) (nwf_at (i := 9) (q := ("LineStore$Lines", 75, "LineStore$Line", "kind", "I", "LineStore")) hI rfl) rfl rfl dX3_mostAtOnce_34 ?_
        refine lv_aload_n hx hb dX3_mostAtOnce_37 rfl (lv_at hl 2 rfl) ?_
        refine h_getN (C := RX2) (T := TX2) (N := 4) hx hb hts i_RX2 hown hI hm_7 rfl 0 (by decide) (nwf_at (i := 9) (q := ("LineStore$Lines", 75, "LineStore$Line", "kind", "I", "LineStore")) hI rfl) rfl rfl dX3_mostAtOnce_38 ?_
        refine lv_icmp_ne (tgt := 105) hx hb dX3_mostAtOnce_41 (by decide) (fun c_20 => ?_) (fun c_20 => ?_)
        · -- 41: nI (kd i) ne
          have c_20 : (kd i) ≠ q := by have h := mt (nI_eq (a := (kd i)) (b := q) (by omega) (by omega)).mpr c_20; omega
          refine lv_iinc (v := nI (i + 1)) (lv' := [(6, .int (nI (i + 1))), (7, .ref (ad (100 + 5 * i))), (0, .ref (ad 16)), (1, .ref (ad k)), (2, .int (nI x)), (3, .int (nI t)), (4, .ref (ad 8)), (5, .int (nI sp))]) hx hb dX3_mostAtOnce_105 hl (k := 7) rfl (nI_add i 1) (by decide) rfl (fun ls hl => ?_)
          refine lv_goto (tgt := 6) hx hb dX3_mostAtOnce_108 (by decide) ?_
          exact ih_6 (i + 1) sp fx lx Mx Hx locsx ls (by omega) (by omega) (mIv_no hm (sel_n1 (by assumption))) hI hm_2 hm_3 (fun j q0 q1 => hF_5 j q0 q1) (lv_sub hl [2, 3, 4, 5, 6, 7, 0] rfl)
        · -- 41: nI (kd i) eq
          have c_20 : (kd i) = q := (nI_eq (a := (kd i)) (b := q) (by omega) (by omega)).mp (c_20)
          refine lv_aload hx hb dX3_mostAtOnce_44 (lv_at hl 0 rfl) ?_
          refine lv_aload_n hx hb dX3_mostAtOnce_46 rfl (lv_at hl 2 rfl) ?_
          refine h_getN (C := RX2) (T := TX2) (N := 4) hx hb hts i_RX2 hown hI hm_7 rfl 1 (by decide) (nwf_at (i := 7) (q := ("LineStore$Lines", 58, "LineStore$Line", "from", "I", "LineStore")) hI rfl) rfl rfl dX3_mostAtOnce_47 ?_
          refine lv_aload_n hx hb dX3_mostAtOnce_50 rfl (lv_at hl 2 rfl) ?_
          refine h_getN (C := RX2) (T := TX2) (N := 4) hx hb hts i_RX2 hown hI hm_7 rfl 2 (by decide) (nwf_at (i := 8) (q := ("LineStore$Lines", 62, "LineStore$Line", "to", "I", "LineStore")) hI rfl) rfl rfl dX3_mostAtOnce_51 ?_
          refine k_Ri (va_runV (As := [.int f0, .int t0]) (rest := []) ⟨hx, hb, hml, hown, hts⟩ (c_X2_isInForceWithin l G z ad Mx (k := 100 + 5 * i) (kd := kd i) (fm := fm i) (to := to i) (a := f0) (b := t0) (hL_12.2.2 i (by omega)).1) (cwV 2 hts (gV (lwg_of t_732 rfl) (lwg_of t_733 rfl) (lwg_of t_734 rfl) (lwg_of t_21 rfl) (lwg_of t_735 rfl)) rfl rfl rfl (by decide +kernel) ⟨Nat.le_of_ble_eq_true rfl, Nat.le_of_ble_eq_true rfl⟩) (hI.preV (hL_12.2.2 i (by omega)).1 rfl) rfl rfl hl.1 rfl (lv_room (Nat.le_of_ble_eq_true rfl)) dX3_mostAtOnce_54 ⟨Nat.le_of_ble_eq_true rfl, Nat.le_of_ble_eq_true rfl⟩) (fun _ h => h) (fun r_21 hp_22 => ?_)
          rw [hp_22]
          refine lv_if_eq (tgt := 105) hx hb dX3_mostAtOnce_57 (by decide) (fun c_23 => ?_) (fun c_23 => ?_)
          · -- 57: bI (decide ((if (fm i) < f0 then f0 else (fm i)) ≤ (if t0 <  eq
            have c_23 : decide ((if (fm i) < f0 then f0 else (fm i)) ≤ (if t0 < (to i) then t0 else (to i))) = false := bI_f (c_23)
            refine lv_iinc (v := nI (i + 1)) (lv' := [(6, .int (nI (i + 1))), (7, .ref (ad (100 + 5 * i))), (0, .ref (ad 16)), (1, .ref (ad k)), (2, .int (nI x)), (3, .int (nI t)), (4, .ref (ad 8)), (5, .int (nI sp))]) hx hb dX3_mostAtOnce_105 hl (k := 7) rfl (nI_add i 1) (by decide) rfl (fun ls hl => ?_)
            refine lv_goto (tgt := 6) hx hb dX3_mostAtOnce_108 (by decide) ?_
            exact ih_6 (i + 1) sp fx lx Mx Hx locsx ls (by omega) (by omega) (mIv_no hm (sel_n2 (by assumption))) hI hm_2 hm_3 (fun j q0 q1 => hF_5 j q0 q1) (lv_sub hl [2, 3, 4, 5, 6, 7, 0] rfl)
          · -- 57: bI (decide ((if (fm i) < f0 then f0 else (fm i)) ≤ (if t0 <  ne
            have c_23 : decide ((if (fm i) < f0 then f0 else (fm i)) ≤ (if t0 < (to i) then t0 else (to i))) = true := bI_t (c_23)
            refine lv_aload hx hb dX3_mostAtOnce_60 (lv_at hl 0 rfl) ?_
            refine h_getN (C := RX2) (T := TX2) (N := 4) hx hb hts i_RX2 hown hI (hL_12.2.2 i (by omega)).1 rfl 3 (by decide) (nwf_at (i := 6) (q := ("LineStore$Lines", 43, "LineStore$Line", "ends", "LLineStore$Ends;", "LineStore")) hI rfl) rfl rfl dX3_mostAtOnce_62 ?_
            refine lv_iload_n hx hb dX3_mostAtOnce_65 rfl (lv_at hl 3 rfl) ?_
            refine lv_aload hx hb dX3_mostAtOnce_66 (lv_at hl 5 rfl) ?_
            refine k_Rl (va_runV (As := [.int (nI x), .ref (ad 8)]) (rest := []) ⟨hx, hb, hml, hown, hts⟩ (c_X0_thingsInRole l G z ad Mx (k := 100 + 5 * i + 1) (sz := sz i) (rl := (rl i)) (th := (thE (en i))) (jn := jn) (lst := lst) (x := x) (hL_12.2.2 i (by omega)).2.1 (hL_12.2.2 i (by omega)).2.2.1 (hL_12.2.2 i (by omega)).2.2.2.1 hm_8 hm_9 (by omega) (thE_ok _ _) (thE_lt _ _) hlst (fun j hj => (hje j hj).1) (by omega)) (cwV 2 hts (gV (lwg_of t_742 rfl) (lwg_of t_373 rfl) (lwg_of t_374 rfl) (lwg_of t_5 rfl) (lwg_of t_375 rfl)) rfl rfl rfl (by decide +kernel) ⟨Nat.le_of_ble_eq_true rfl, Nat.le_of_ble_eq_true rfl⟩) (hI.preV (hL_12.2.2 i (by omega)).2.1 rfl) rfl rfl hl.1 rfl (lv_room (Nat.le_of_ble_eq_true rfl)) dX3_mostAtOnce_68 ⟨Nat.le_of_ble_eq_true rfl, Nat.le_of_ble_eq_true rfl⟩) (fun _ h => h) (fun r_24 hp_25 => ?_)
            refine lv_iload_n hx hb dX3_mostAtOnce_71 rfl (lv_at hl 4 rfl) ?_
            refine k_Ri (va_runSN (As := [.long r_24, .int (nI t)]) (rest := []) ⟨hx, hb, hml, hown, hts⟩ (c_X9_isIn l G z ad Mx (x := r_24) (t := t) (by omega)) ⟨va_cnB 2 hts (gU (lwg_of t_420 rfl)) rfl rfl rfl (nwm_at (i := 6) (q := ("LineStore$Lines", 100, ⟨"LineStore", "isIn", "(JI)Z"⟩, "LineStore")) hI rfl) si_100 (by decide +kernel) ⟨Nat.le_of_ble_eq_true rfl, Nat.le_of_ble_eq_true rfl⟩, st_100, trivial⟩ hI.preS rfl rfl hl.1 rfl (lv_room (Nat.le_of_ble_eq_true rfl)) dX3_mostAtOnce_72 ⟨Nat.le_of_ble_eq_true rfl, Nat.le_of_ble_eq_true rfl⟩) (fun _ h => h) (fun r_26 hp_27 => ?_)
            rw [hp_27]
            refine lv_if_eq (tgt := 105) hx hb dX3_mostAtOnce_75 (by decide) (fun c_28 => ?_) (fun c_28 => ?_)
            · -- 75: bI (inS r_24 t) eq
              have c_28 : inS r_24 t = false := bI_f (c_28)
              refine lv_iinc (v := nI (i + 1)) (lv' := [(6, .int (nI (i + 1))), (7, .ref (ad (100 + 5 * i))), (0, .ref (ad 16)), (1, .ref (ad k)), (2, .int (nI x)), (3, .int (nI t)), (4, .ref (ad 8)), (5, .int (nI sp))]) hx hb dX3_mostAtOnce_105 hl (k := 7) rfl (nI_add i 1) (by decide) rfl (fun ls hl => ?_)
              refine lv_goto (tgt := 6) hx hb dX3_mostAtOnce_108 (by decide) ?_
              exact ih_6 (i + 1) sp fx lx Mx Hx locsx ls (by omega) (by omega) (mIv_no hm (sel_n3 hp_25 (by assumption))) hI hm_2 hm_3 (fun j q0 q1 => hF_5 j q0 q1) (lv_sub hl [2, 3, 4, 5, 6, 7, 0] rfl)
            · -- 75: bI (inS r_24 t) ne
              have c_28 : inS r_24 t = true := bI_t (c_28)
              refine lv_aload_n hx hb dX3_mostAtOnce_78 rfl (lv_at hl 1 rfl) ?_
              refine h_get (C := RX3) (T := TX3) (N := 4) hx hb hts i_RX3 hown hI hm_10 rfl 2 (by decide) f_22 rfl rfl dX3_mostAtOnce_79 ?_
              refine lv_iload hx hb dX3_mostAtOnce_82 (lv_at hl 6 rfl) ?_
              refine lv_aload hx hb dX3_mostAtOnce_84 (lv_at hl 0 rfl) ?_
              refine h_getN (C := RX2) (T := TX2) (N := 4) hx hb hts i_RX2 hown hI (hL_12.2.2 i (by omega)).1 rfl 1 (by decide) (nwf_at (i := 7) (q := ("LineStore$Lines", 58, "LineStore$Line", "from", "I", "LineStore")) hI rfl) rfl rfl dX3_mostAtOnce_86 ?_
              refine h_iast (i := sp) (x := (fm i)) hx hb hI hm_2 (by omega) (by decide) dX3_mostAtOnce_89 (fun M_29 H_30 locs_31 eM_32 hI => ?_)
              have hm_33 : M_29 k = some (cLine ad k q f0 t0) := by rw [eM_32, va_up_ne _ _ (by omega)]; exact hm_7
              have hm_34 : M_29 8 = some (cOnes ad jn) := by rw [eM_32, va_up_ne _ _ (by omega)]; exact hm_8
              have hm_35 : M_29 10 = some (aI G 40 (nF lst)) := by rw [eM_32, va_up_ne _ _ (by omega)]; exact hm_9
              have hm_36 : M_29 16 = some (cLines ad ) := by rw [eM_32, va_up_ne _ _ (by omega)]; exact hm_10
              have hm_37 : M_29 17 = some (cList ad mcn ed n) := by rw [eM_32, va_up_ne _ _ (by omega)]; exact hm_11
              have hm_38 : M_29 20 = some (aI G 120 (upd fx sp (fm i))) := by rw [eM_32]; exact va_up_self _ _ _
              have hm_39 : M_29 21 = some (aI G 120 lx) := by rw [eM_32, va_up_ne _ _ (by omega)]; exact hm_3
              have hL_40 : LSm G ad M_29 n kd fm to sz rl en := hL_12.keep (fun j hj => by rw [eM_32, va_up_ne _ _ (by omega)])
              have hF_41 : ∀ j : Nat, j ≠ 20 → j ≠ 21 → M_29 j = M j := fun j q0 q1 => by rw [eM_32, va_up_ne _ _ q0]; exact hF_5 j q0 q1
              refine lv_aload_n hx hb dX3_mostAtOnce_90 rfl (lv_at hl 1 rfl) ?_
              refine h_get (C := RX3) (T := TX3) (N := 4) hx hb hts i_RX3 hown hI hm_36 rfl 3 (by decide) f_26 rfl rfl dX3_mostAtOnce_91 ?_
              refine lv_iload hx hb dX3_mostAtOnce_94 (lv_at hl 6 rfl) ?_
              refine lv_aload hx hb dX3_mostAtOnce_96 (lv_at hl 0 rfl) ?_
              refine h_getN (C := RX2) (T := TX2) (N := 4) hx hb hts i_RX2 hown hI (hL_40.2.2 i (by omega)).1 rfl 2 (by decide) (nwf_at (i := 8) (q := ("LineStore$Lines", 62, "LineStore$Line", "to", "I", "LineStore")) hI rfl) rfl rfl dX3_mostAtOnce_98 ?_
              refine h_iast (i := sp) (x := (to i)) hx hb hI hm_39 (by omega) (by decide) dX3_mostAtOnce_101 (fun M_42 H_43 locs_44 eM_45 hI => ?_)
              have hm_46 : M_42 k = some (cLine ad k q f0 t0) := by rw [eM_45, va_up_ne _ _ (by omega)]; exact hm_33
              have hm_47 : M_42 8 = some (cOnes ad jn) := by rw [eM_45, va_up_ne _ _ (by omega)]; exact hm_34
              have hm_48 : M_42 10 = some (aI G 40 (nF lst)) := by rw [eM_45, va_up_ne _ _ (by omega)]; exact hm_35
              have hm_49 : M_42 16 = some (cLines ad ) := by rw [eM_45, va_up_ne _ _ (by omega)]; exact hm_36
              have hm_50 : M_42 17 = some (cList ad mcn ed n) := by rw [eM_45, va_up_ne _ _ (by omega)]; exact hm_37
              have hm_51 : M_42 20 = some (aI G 120 (upd fx sp (fm i))) := by rw [eM_45, va_up_ne _ _ (by omega)]; exact hm_38
              have hm_52 : M_42 21 = some (aI G 120 (upd lx sp (to i))) := by rw [eM_45]; exact va_up_self _ _ _
              have hL_53 : LSm G ad M_42 n kd fm to sz rl en := hL_40.keep (fun j hj => by rw [eM_45, va_up_ne _ _ (by omega)])
              have hF_54 : ∀ j : Nat, j ≠ 20 → j ≠ 21 → M_42 j = M j := fun j q0 q1 => by rw [eM_45, va_up_ne _ _ q1]; exact hF_41 j q0 q1
              refine lv_iinc (v := nI (sp + 1)) (lv' := [(5, .int (nI (sp + 1))), (7, .ref (ad (100 + 5 * i))), (0, .ref (ad 16)), (1, .ref (ad k)), (2, .int (nI x)), (3, .int (nI t)), (4, .ref (ad 8)), (6, .int (nI i))]) hx hb dX3_mostAtOnce_102 hl (k := 6) rfl (nI_add sp 1) (by decide) rfl (fun ls hl => ?_)
              refine lv_iinc (v := nI (i + 1)) (lv' := [(6, .int (nI (i + 1))), (5, .int (nI (sp + 1))), (7, .ref (ad (100 + 5 * i))), (0, .ref (ad 16)), (1, .ref (ad k)), (2, .int (nI x)), (3, .int (nI t)), (4, .ref (ad 8))]) hx hb dX3_mostAtOnce_105 hl (k := 7) rfl (nI_add i 1) (by decide) rfl (fun ls hl => ?_)
              refine lv_goto (tgt := 6) hx hb dX3_mostAtOnce_108 (by decide) ?_
              exact ih_6 (i + 1) (sp + 1) (upd fx sp (fm i)) (upd lx sp (to i)) M_42 H_43 locs_44 ls (by omega) (by omega) (mIv_yes hm (sel_y (by assumption) (by assumption) hp_25 (by assumption))) hI hm_51 hm_52 (fun j q0 q1 => hF_54 j q0 q1) (lv_sub hl [3, 4, 5, 6, 7, 1, 0] rfl)
  exact lp6_1 ((n - 0) + 1) 0 0 ff lf M s.heap [] ls (Nat.lt_succ_self _) (by omega) (mIv_0) hI h20 h21 (fun j _ _ => rfl) (lv_sub hl [2, 3, 4, 5, 6, 1, 0] rfl)

/-- a new line brings some thing of it above the law -/
def crw1 (n : Nat) (kd : Nat → Nat) (fm to : Nat → Int32) (sz : Nat → Nat) (rl en : Nat → Nat → Nat) (lst al : Nat → Nat) (q : Nat) (f0 t0 : Int32) (r0 e0 : Nat → Nat) (j : Nat) : Prop := e0 j < 40 ∧ 0 < al (q * 6 + r0 j) ∧ ∃ d, f0 ≤ d ∧ d ≤ t0 ∧ al (q * 6 + r0 j) ≤ cntB (wth kd fm to sz rl en lst (lst (e0 j)) q (r0 j) d) n
def crw (n : Nat) (kd : Nat → Nat) (fm to : Nat → Int32) (sz : Nat → Nat) (rl en : Nat → Nat → Nat) (lst al : Nat → Nat) (q : Nat) (f0 t0 : Int32) (r0 e0 : Nat → Nat) (m : Nat) : Prop := ∃ j, j < m ∧ crw1 n kd fm to sz rl en lst al q f0 t0 r0 e0 j
theorem crw_s {n : Nat} {kd : Nat → Nat} {fm to : Nat → Int32} {sz : Nat → Nat} {rl en : Nat → Nat → Nat} {lst al : Nat → Nat} {q : Nat} {f0 t0 : Int32} {r0 e0 : Nat → Nat} {m : Nat} (h : ¬ crw n kd fm to sz rl en lst al q f0 t0 r0 e0 m) (h1 : ¬ crw1 n kd fm to sz rl en lst al q f0 t0 r0 e0 m) : ¬ crw n kd fm to sz rl en lst al q f0 t0 r0 e0 (m + 1) := by
  rintro ⟨j, hj, hc⟩
  by_cases e : j = m
  · subst e; exact h1 hc
  · exact h ⟨j, by omega, hc⟩
theorem thE_none {e : Nat → Nat} {j : Nat} (h : thE e j = none) : ¬ e j < 40 := fun h4 => by simp only [thE, if_pos h4] at h; cases h

/-- X3_crowdedBy -/
abbrev rm_c_X3_crowdedBy : Room := { frames := 4, cells := 0, slots := 0, locals := 91 }
set_option maxHeartbeats 4000000 in
set_option maxRecDepth 100000 in
theorem c_X3_crowdedBy (l : Launch) (G : GG) (z : Nat) (ad : Nat → Nat) (M : Mem) {n : Nat} {kd : Nat → Nat} {fm : Nat → Int32} {to : Nat → Int32} {sz : Nat → Nat} {rl : Nat → Nat → Nat} {en : Nat → Nat → Nat} {k : Nat} {q : Nat} {f0 : Int32} {t0 : Int32} {s0 : Nat} {r0 : Nat → Nat} {e0 : Nat → Nat} {jn : Nat} {lst : Nat → Nat} {al : Nat → Nat} {ff : Nat → Int32} {lf : Nat → Int32} (hL : LSm G ad M n kd fm to sz rl en) (hk : M k = some (cLine ad k q f0 t0)) (he : M (k + 1) = some (cEnds ad (k + 1) s0)) (hr2 : M (k + 2) = some (aI G 6 (nF r0))) (hr3 : M (k + 3) = some (aI G 6 (oF (thE e0)))) (h3 : M 3 = some (cLaws ad )) (h6 : M 6 = some (aI G 36 (nF al))) (h8 : M 8 = some (cOnes ad jn)) (h10 : M 10 = some (aI G 40 (nF lst))) (h20 : M 20 = some (aI G 120 ff)) (h21 : M 21 = some (aI G 120 lf)) (hw : LSw n kd sz rl en) (hs0 : s0 ≤ 6) (hr0 : ∀ j, j < s0 → r0 j < 6) (he0 : ∀ j, j < s0 → e0 j < 40 + n) (hlst : ∀ u, u < 40 → lst u < 40) (hq : q < 6) (hkp : 100 ≤ k) (hal : ∀ j, j < 36 → al j ≤ 100) : Met l yX3_crowdedBy wsX3_crowdedBy rm_c_X3_crowdedBy (Pr G z ad M [.ref (ad 16), .ref (ad k), .ref (ad 3), .ref (ad 8)]) (Ni G z ad (fun (r : Int32) (M' : Mem) => ∃ b : Bool, ∃ ff2 : Nat → Int32, ∃ lf2 : Nat → Int32, M' 20 = some (aI G 120 ff2) ∧ M' 21 = some (aI G 120 lf2) ∧ (∀ j : Nat, j ≠ 20 → j ≠ 21 → M' j = M j) ∧ (r = bI b ∧ (b = true ↔ crw n kd fm to sz rl en lst al q f0 t0 r0 e0 s0)))) 0 0 (fr z) := by
  refine Met.ofW (cc := cX3_crowdedBy) (maxL := 8) (ret := (some .boolean)) (by decide) rfl ?_
  intro p e s m args below meth c s₁ B hml hv
  obtain ⟨rfl, hv⟩ := hv
  have hI := Iv.entry hv
  have hx := B.exec
  have hb := B.bytes
  have hr := B.returns
  have hts := atoms_spec (ws := wsX3_crowdedBy) B.pre
  have hown : s.vm.findClass RX3 = some m.cls := findClass_of_methodNamed B.named
  have hlocks := B.notSynchronized
  have i_RX2 : ∀ w ∈ u_ws RX2 TX2 4, w ∈ wsX3_crowdedBy := fun w h => List.mem_cons_of_mem _ (iu_X2 w h)
  have hl := lv_entry ([.ref (ad 16), .ref (ad k), .ref (ad 3), .ref (ad 8)]) (n := 8) (Nat.le_of_ble_eq_true rfl)
  rw [lg_entry_eq]
  generalize (lg_sl ([.ref (ad 16), .ref (ad k), .ref (ad 3), .ref (ad 8)]) ++ List.replicate (8 - (lg_sl ([.ref (ad 16), .ref (ad k), .ref (ad 3), .ref (ad 8)])).length) Slot.unset).toArray = ls at hl ⊢
  have hl : lv_has ls 8 [(0, .ref (ad 16)), (1, .ref (ad k)), (2, .ref (ad 3)), (3, .ref (ad 8))] := hl
  refine w_q (fun Q hQ => ?_)
  have h16 := hL.1
  obtain ⟨mcn, ed, h17, hed⟩ := id hL.2.1
  have hw1 := hw.1
  refine lv_iconst (v := nI 0) hx hb dX3_crowdedBy_0 (by decide) ?_
  refine lv_istore (lv' := [(4, .int (nI 0)), (0, .ref (ad 16)), (1, .ref (ad k)), (2, .ref (ad 3)), (3, .ref (ad 8))]) hx hb dX3_crowdedBy_1 hl (by decide) rfl (fun ls hl => ?_)
  have lp3_1 : ∀ (fuel : Nat) (i : Nat) (fx : Nat → Int32) (lx : Nat → Int32) (Mx : Mem) (Hx : Heap) (locsx : List Loc) (ls : Array Slot), (s0 - i) < fuel → (i ≤ s0) → (¬ crw n kd fm to sz rl en lst al q f0 t0 r0 e0 i) → Iv G z ad Mx s Hx locsx → Mx 20 = some (aI G 120 fx) → Mx 21 = some (aI G 120 lx) → (∀ j : Nat, j ≠ 20 → j ≠ 21 → Mx j = M j) → lv_has ls 8 [(0, .ref (ad 16)), (1, .ref (ad k)), (2, .ref (ad 3)), (3, .ref (ad 8)), (4, .int (nI i))] → W p l e (headSpec wsX3_crowdedBy rm_c_X3_crowdedBy).room s m ([.ref (ad 16), .ref (ad k), .ref (ad 3), .ref (ad 8)] : List Value).toArray below meth c Hx locsx 0 0 Q (F0 m 3 ls []) := by
    intro fuel
    induction fuel with
    | zero => intro i fx lx Mx Hx locsx ls hfu hi hno hI hm_2 hm_3 hF_5 hl; exact absurd hfu (Nat.not_lt_zero _)
    | succ fuel ih_6 =>
      intro i fx lx Mx Hx locsx ls hfu hi hno hI hm_2 hm_3 hF_5 hl
      have hm_7 : Mx k = some (cLine ad k q f0 t0) := by rw [hF_5 k (by omega) (by omega)]; exact hk
      have hm_8 : Mx (k + 1) = some (cEnds ad (k + 1) s0) := by rw [hF_5 (k + 1) (by omega) (by omega)]; exact he
      have hm_9 : Mx (k + 2) = some (aI G 6 (nF r0)) := by rw [hF_5 (k + 2) (by omega) (by omega)]; exact hr2
      have hm_10 : Mx (k + 3) = some (aI G 6 (oF (thE e0))) := by rw [hF_5 (k + 3) (by omega) (by omega)]; exact hr3
      have hm_11 : Mx 3 = some (cLaws ad ) := by rw [hF_5 3 (by omega) (by omega)]; exact h3
      have hm_12 : Mx 6 = some (aI G 36 (nF al)) := by rw [hF_5 6 (by omega) (by omega)]; exact h6
      have hm_13 : Mx 8 = some (cOnes ad jn) := by rw [hF_5 8 (by omega) (by omega)]; exact h8
      have hm_14 : Mx 10 = some (aI G 40 (nF lst)) := by rw [hF_5 10 (by omega) (by omega)]; exact h10
      have hm_15 : Mx 16 = some (cLines ad ) := by rw [hF_5 16 (by omega) (by omega)]; exact h16
      have hm_16 : Mx 17 = some (cList ad mcn ed n) := by rw [hF_5 17 (by omega) (by omega)]; exact h17
      have hL_17 : LSm G ad Mx n kd fm to sz rl en := hL.keep (fun j hj => hF_5 j (by omega) (by omega))
      have hw1 := hw.1
      refine lv_iload hx hb dX3_crowdedBy_3 (lv_at hl 4 rfl) ?_
      refine lv_aload_n hx hb dX3_crowdedBy_5 rfl (lv_at hl 1 rfl) ?_
      refine h_getN (C := RX2) (T := TX2) (N := 4) hx hb hts i_RX2 hown hI hm_7 rfl 3 (by decide) (nwf_at (i := 6) (q := ("LineStore$Lines", 43, "LineStore$Line", "ends", "LLineStore$Ends;", "LineStore")) hI rfl) rfl rfl dX3_crowdedBy_6 ?_
      refine k_Ri (va_runV (As := []) (rest := [.int (nI i)]) ⟨hx, hb, hml, hown, hts⟩ (c_X0_size l G z ad Mx (k := k + 1) (sz := s0) hm_8) (cwV 0 hts (gV (lwg_of t_702 rfl) (lwg_of t_451 rfl) (lwg_of t_452 rfl) (lwg_of t_5 rfl) (lwg_of t_453 rfl)) rfl rfl rfl (by decide +kernel) ⟨Nat.le_of_ble_eq_true rfl, Nat.le_of_ble_eq_true rfl⟩) (hI.preV hm_8 rfl) rfl rfl hl.1 rfl (lv_room (Nat.le_of_ble_eq_true rfl)) dX3_crowdedBy_9 ⟨Nat.le_of_ble_eq_true rfl, Nat.le_of_ble_eq_true rfl⟩) (fun _ h => h) (fun r_18 hp_19 => ?_)
      rw [hp_19]
      refine lv_icmp_ge (tgt := 87) hx hb dX3_crowdedBy_12 (by decide) (fun c_20 => ?_) (fun c_20 => ?_)
      · -- 12: nI i ge
        have c_20 : s0 ≤ i := (nI_leI (a := s0) (b := i) (by omega) (by omega)).mp (c_20)
        refine lv_iconst (v := nI 0) hx hb dX3_crowdedBy_87 (by decide) ?_
        subst hQ
        exact e_Ni hx hb hr rfl hlocks hI ⟨false, fx, lx, hm_2, hm_3, (fun j q0 q1 => hF_5 j q0 q1), ⟨rfl, ⟨fun h => absurd h Bool.false_ne_true, fun h => absurd (by rw [show i = s0 by omega]; exact h) hno⟩⟩⟩ dX3_crowdedBy_88
      · -- 12: nI i lt
        have c_20 : i < s0 := by have h := mt (nI_leI (a := s0) (b := i) (by omega) (by omega)).mpr c_20; omega
        have hri := hr0 i (by omega)
        have hai := hal (q * 6 + r0 i) (by omega)
        have ok_thE : ∀ (e : Nat → Nat) (j : Nat), e = e0 → j = i → oK (thE e j) := fun e j h1 h2 => by subst h1; subst h2; exact thE_ok e (j + 1) j (Nat.lt_succ_self j)
        refine lv_aload_n hx hb dX3_crowdedBy_15 rfl (lv_at hl 1 rfl) ?_
        refine h_getN (C := RX2) (T := TX2) (N := 4) hx hb hts i_RX2 hown hI hm_7 rfl 3 (by decide) (nwf_at (i := 6) (q := ("LineStore$Lines", 43, "LineStore$Line", "ends", "LLineStore$Ends;", "LineStore")) hI rfl) rfl rfl dX3_crowdedBy_16 ?_
        refine lv_iload hx hb dX3_crowdedBy_19 (lv_at hl 4 rfl) ?_
        refine k_Ri (va_runV (As := [.int (nI i)]) (rest := []) ⟨hx, hb, hml, hown, hts⟩ (c_X0_role l G z ad Mx (k := k + 1) (sz := s0) (rl := r0) (i := i) hm_8 hm_9 (by omega)) (cwV 1 hts (gV (lwg_of t_715 rfl) (lwg_of t_716 rfl) (lwg_of t_717 rfl) (lwg_of t_5 rfl) (lwg_of t_718 rfl)) rfl rfl rfl (by decide +kernel) ⟨Nat.le_of_ble_eq_true rfl, Nat.le_of_ble_eq_true rfl⟩) (hI.preV hm_8 rfl) rfl rfl hl.1 rfl (lv_room (Nat.le_of_ble_eq_true rfl)) dX3_crowdedBy_21 ⟨Nat.le_of_ble_eq_true rfl, Nat.le_of_ble_eq_true rfl⟩) (fun _ h => h) (fun r_21 hp_22 => ?_)
        rw [hp_22]
        refine lv_istore (lv' := [(5, .int (nI (r0 i))), (0, .ref (ad 16)), (1, .ref (ad k)), (2, .ref (ad 3)), (3, .ref (ad 8)), (4, .int (nI i))]) hx hb dX3_crowdedBy_24 hl (by decide) rfl (fun ls hl => ?_)
        refine lv_aload_n hx hb dX3_crowdedBy_26 rfl (lv_at hl 2 rfl) ?_
        refine h_getN (C := RX2) (T := TX2) (N := 4) hx hb hts i_RX2 hown hI hm_7 rfl 3 (by decide) (nwf_at (i := 6) (q := ("LineStore$Lines", 43, "LineStore$Line", "ends", "LLineStore$Ends;", "LineStore")) hI rfl) rfl rfl dX3_crowdedBy_27 ?_
        refine lv_iload hx hb dX3_crowdedBy_30 (lv_at hl 5 rfl) ?_
        refine k_Ri (va_runV (As := [.int (nI i)]) (rest := []) ⟨hx, hb, hml, hown, hts⟩ (c_X0_thing l G z ad Mx (k := k + 1) (sz := s0) (th := (thE e0)) (i := i) hm_8 hm_10 (by omega)) (cwV 1 hts (gV (lwg_of t_719 rfl) (lwg_of t_720 rfl) (lwg_of t_721 rfl) (lwg_of t_5 rfl) (lwg_of t_722 rfl)) rfl rfl rfl (by decide +kernel) ⟨Nat.le_of_ble_eq_true rfl, Nat.le_of_ble_eq_true rfl⟩) (hI.preV hm_8 rfl) rfl rfl hl.1 rfl (lv_room (Nat.le_of_ble_eq_true rfl)) dX3_crowdedBy_32 ⟨Nat.le_of_ble_eq_true rfl, Nat.le_of_ble_eq_true rfl⟩) (fun _ h => h) (fun r_23 hp_24 => ?_)
        rw [hp_24]
        refine lv_istore (lv' := [(6, .int (oI ((thE e0) i))), (5, .int (nI (r0 i))), (0, .ref (ad 16)), (1, .ref (ad k)), (2, .ref (ad 3)), (3, .ref (ad 8)), (4, .int (nI i))]) hx hb dX3_crowdedBy_35 hl (by decide) rfl (fun ls hl => ?_)
        refine lv_aload_n hx hb dX3_crowdedBy_37 rfl (lv_at hl 4 rfl) ?_
        refine lv_aload_n hx hb dX3_crowdedBy_38 rfl (lv_at hl 3 rfl) ?_
        refine h_getN (C := RX2) (T := TX2) (N := 4) hx hb hts i_RX2 hown hI hm_7 rfl 0 (by decide) (nwf_at (i := 9) (q := ("LineStore$Lines", 75, "LineStore$Line", "kind", "I", "LineStore")) hI rfl) rfl rfl dX3_crowdedBy_39 ?_
        refine lv_iload hx hb dX3_crowdedBy_42 (lv_at hl 1 rfl) ?_
        refine k_Ri (va_runV (As := [.int (nI q), .int (nI (r0 i))]) (rest := []) ⟨hx, hb, hml, hown, hts⟩ (c_X1_mostAlone l G z ad Mx (al := al) (kd := q) (x := r0 i) hm_11 hm_12 (by omega) (by omega)) (cwV 2 hts (gV (lwg_of t_723 rfl) (lwg_of t_724 rfl) (lwg_of t_725 rfl) (lwg_of t_3 rfl) (lwg_of t_726 rfl)) rfl rfl rfl (by decide +kernel) ⟨Nat.le_of_ble_eq_true rfl, Nat.le_of_ble_eq_true rfl⟩) (hI.preV hm_11 rfl) rfl rfl hl.1 rfl (lv_room (Nat.le_of_ble_eq_true rfl)) dX3_crowdedBy_44 ⟨Nat.le_of_ble_eq_true rfl, Nat.le_of_ble_eq_true rfl⟩) (fun _ h => h) (fun r_25 hp_26 => ?_)
        rw [hp_26]
        refine lv_istore (lv' := [(7, .int (nI (al (q * 6 + (r0 i))))), (6, .int (oI ((thE e0) i))), (5, .int (nI (r0 i))), (0, .ref (ad 16)), (1, .ref (ad k)), (2, .ref (ad 3)), (3, .ref (ad 8)), (4, .int (nI i))]) hx hb dX3_crowdedBy_47 hl (by decide) rfl (fun ls hl => ?_)
        refine lv_iload hx hb dX3_crowdedBy_49 (lv_at hl 1 rfl) ?_
        refine lv_iconst (v := (-1)) hx hb dX3_crowdedBy_51 (by decide) ?_
        refine lv_icmp_eq (tgt := 81) hx hb dX3_crowdedBy_52 (by decide) (fun c_27 => ?_) (fun c_27 => ?_)
        · -- 52: oI ((thE e0) i) eq
          have c_27 : (thE e0) i = none := (oI_none_of (ok_thE e0 i rfl rfl )).mp c_27
          refine lv_iinc (v := nI (i + 1)) (lv' := [(4, .int (nI (i + 1))), (7, .int (nI (al (q * 6 + (r0 i))))), (6, .int (oI ((thE e0) i))), (5, .int (nI (r0 i))), (0, .ref (ad 16)), (1, .ref (ad k)), (2, .ref (ad 3)), (3, .ref (ad 8))]) hx hb dX3_crowdedBy_81 hl (k := 7) rfl (nI_add i 1) (by decide) rfl (fun ls hl => ?_)
          refine lv_goto (tgt := 3) hx hb dX3_crowdedBy_84 (by decide) ?_
          exact ih_6 (i + 1) fx lx Mx Hx locsx ls (by omega) (by omega) (crw_s hno (fun h => thE_none (by assumption) h.1)) hI hm_2 hm_3 (fun j q0 q1 => hF_5 j q0 q1) (lv_sub hl [4, 5, 6, 7, 0] rfl)
        · -- 52: oI ((thE e0) i) ne
          have c_27 : (thE e0) i ≠ none := (fun h => c_27 ((oI_none_of (ok_thE e0 i rfl rfl )).mpr h))
          refine lv_iload hx hb dX3_crowdedBy_55 (lv_at hl 0 rfl) ?_
          refine lv_if_le (tgt := 81) hx hb dX3_crowdedBy_57 (by decide) (fun c_28 => ?_) (fun c_28 => ?_)
          · -- 57: nI (al (q * 6 + (r0 i))) le
            have c_28 : al (q * 6 + (r0 i)) ≤ 0 := (nI_leI (a := al (q * 6 + (r0 i))) (b := 0) (by omega) (by omega)).mp (c_28)
            refine lv_iinc (v := nI (i + 1)) (lv' := [(4, .int (nI (i + 1))), (7, .int (nI (al (q * 6 + (r0 i))))), (6, .int (oI ((thE e0) i))), (5, .int (nI (r0 i))), (0, .ref (ad 16)), (1, .ref (ad k)), (2, .ref (ad 3)), (3, .ref (ad 8))]) hx hb dX3_crowdedBy_81 hl (k := 7) rfl (nI_add i 1) (by decide) rfl (fun ls hl => ?_)
            refine lv_goto (tgt := 3) hx hb dX3_crowdedBy_84 (by decide) ?_
            exact ih_6 (i + 1) fx lx Mx Hx locsx ls (by omega) (by omega) (crw_s hno (fun h => absurd h.2.1 (by omega))) hI hm_2 hm_3 (fun j q0 q1 => hF_5 j q0 q1) (lv_sub hl [4, 5, 6, 7, 0] rfl)
          · -- 57: nI (al (q * 6 + (r0 i))) gt
            have c_28 : 0 < al (q * 6 + (r0 i)) := by have h := mt (nI_leI (a := al (q * 6 + (r0 i))) (b := 0) (by omega) (by omega)).mpr c_28; omega
            obtain ⟨u, hu⟩ := Option.ne_none_iff_exists'.mp (by assumption : thE e0 i ≠ none)
            have hue := (thE_some hu).1 (by have := he0 i (by omega); omega)
            have hu4 := (thE_some hu).2
            have hlu := hlst u hu4
            refine lv_aload_n hx hb dX3_crowdedBy_60 rfl (lv_at hl 3 rfl) ?_
            refine lv_aload_n hx hb dX3_crowdedBy_61 rfl (lv_at hl 4 rfl) ?_
            refine lv_iload hx hb dX3_crowdedBy_62 (lv_at hl 2 rfl) ?_
            refine lv_aload_n hx hb dX3_crowdedBy_64 rfl (lv_at hl 6 rfl) ?_
            refine lv_iload hx hb dX3_crowdedBy_65 (lv_at hl 1 rfl) ?_
            refine n_eq (show _ = nI u from by show oI (thE e0 i) = _; rw [hu]; rfl) ?_
            refine k_Ri (va_runV (As := [.int (nI u)]) (rest := [.int (nI (r0 i)), .ref (ad k), .ref (ad 16)]) ⟨hx, hb, hml, hown, hts⟩ (c_X5_of l G z ad Mx (jn := jn) (lst := lst) (t := u) hm_13 hm_14 (by omega)) (cwV 1 hts (gV (lwg_of t_727 rfl) (lwg_of t_377 rfl) (lwg_of t_378 rfl) (lwg_of t_4 rfl) (lwg_of t_379 rfl)) rfl rfl rfl (by decide +kernel) ⟨Nat.le_of_ble_eq_true rfl, Nat.le_of_ble_eq_true rfl⟩) (hI.preV hm_13 rfl) rfl rfl hl.1 rfl (lv_room (Nat.le_of_ble_eq_true rfl)) dX3_crowdedBy_67 ⟨Nat.le_of_ble_eq_true rfl, Nat.le_of_ble_eq_true rfl⟩) (fun _ h => h) (fun r_29 hp_30 => ?_)
            rw [hp_30]
            refine lv_aload_n hx hb dX3_crowdedBy_70 rfl (lv_at hl 6 rfl) ?_
            refine k_Ni (va_runV (As := [.ref (ad k), .int (nI (r0 i)), .int (nI (lst u)), .ref (ad 8)]) (rest := []) ⟨hx, hb, hml, hown, hts⟩ (c_X3_mostAtOnce l G z ad Mx (n := n) (kd := kd) (fm := fm) (to := to) (sz := sz) (rl := rl) (en := en) (k := k) (q := q) (f0 := f0) (t0 := t0) (jn := jn) (lst := lst) (t := lst u) (x := r0 i) (ff := fx) (lf := lx) hL_17 hm_7 hm_13 hm_14 hm_2 hm_3 hw hlst (by omega) (by omega) (by omega) (by omega)) (cwV 4 hts (gV (lwg_of t_728 rfl) (lwg_of t_730 rfl) (lwg_of ts_9 rfl) (lwg_of t_6 rfl) (lwg_of t_731 rfl)) rfl rfl rfl (by decide +kernel) ⟨Nat.le_of_ble_eq_true rfl, Nat.le_of_ble_eq_true rfl⟩) (hI.preV hm_15 rfl) rfl rfl hl.1 rfl (lv_room (Nat.le_of_ble_eq_true rfl)) dX3_crowdedBy_71 ⟨Nat.le_of_ble_eq_true rfl, Nat.le_of_ble_eq_true rfl⟩) hI (fun r_31 M_33 H_34 locs_35 hp_32 hI => ?_)
            obtain ⟨v_41, ff2_42, lf2_43, hr_36, hm_37, hm_38, hF_39, hP_40⟩ := hp_32
            have hm_44 : M_33 k = some (cLine ad k q f0 t0) := by rw [hF_39 k (by omega) (by omega)]; exact hm_7
            have hm_45 : M_33 (k + 1) = some (cEnds ad (k + 1) s0) := by rw [hF_39 (k + 1) (by omega) (by omega)]; exact hm_8
            have hm_46 : M_33 (k + 2) = some (aI G 6 (nF r0)) := by rw [hF_39 (k + 2) (by omega) (by omega)]; exact hm_9
            have hm_47 : M_33 (k + 3) = some (aI G 6 (oF (thE e0))) := by rw [hF_39 (k + 3) (by omega) (by omega)]; exact hm_10
            have hm_48 : M_33 3 = some (cLaws ad ) := by rw [hF_39 3 (by omega) (by omega)]; exact hm_11
            have hm_49 : M_33 6 = some (aI G 36 (nF al)) := by rw [hF_39 6 (by omega) (by omega)]; exact hm_12
            have hm_50 : M_33 8 = some (cOnes ad jn) := by rw [hF_39 8 (by omega) (by omega)]; exact hm_13
            have hm_51 : M_33 10 = some (aI G 40 (nF lst)) := by rw [hF_39 10 (by omega) (by omega)]; exact hm_14
            have hm_52 : M_33 16 = some (cLines ad ) := by rw [hF_39 16 (by omega) (by omega)]; exact hm_15
            have hm_53 : M_33 17 = some (cList ad mcn ed n) := by rw [hF_39 17 (by omega) (by omega)]; exact hm_16
            have hL_54 : LSm G ad M_33 n kd fm to sz rl en := hL_17.keep (fun j hj => hF_39 j (by omega) (by omega))
            have hF_55 : ∀ j : Nat, j ≠ 20 → j ≠ 21 → M_33 j = M j := fun j q0 q1 => (hF_39 j q0 q1).trans (hF_5 j q0 q1)
            rw [hr_36]
            have hv1 := hP_40.1
            refine lv_iload hx hb dX3_crowdedBy_74 (lv_at hl 0 rfl) ?_
            refine lv_icmp_lt (tgt := 81) hx hb dX3_crowdedBy_76 (by decide) (fun c_56 => ?_) (fun c_56 => ?_)
            · -- 76: nI v_41 lt
              have c_56 : v_41 < al (q * 6 + (r0 i)) := (nI_ltI (a := v_41) (b := al (q * 6 + (r0 i))) (by omega) (by omega)).mp (c_56)
              refine lv_iinc (v := nI (i + 1)) (lv' := [(4, .int (nI (i + 1))), (7, .int (nI (al (q * 6 + (r0 i))))), (6, .int (oI ((thE e0) i))), (5, .int (nI (r0 i))), (0, .ref (ad 16)), (1, .ref (ad k)), (2, .ref (ad 3)), (3, .ref (ad 8))]) hx hb dX3_crowdedBy_81 hl (k := 7) rfl (nI_add i 1) (by decide) rfl (fun ls hl => ?_)
              refine lv_goto (tgt := 3) hx hb dX3_crowdedBy_84 (by decide) ?_
              exact ih_6 (i + 1) ff2_42 lf2_43 M_33 H_34 locs_35 ls (by omega) (by omega) (crw_s hno (fun h => by have h9 := (hP_40.2 (al (q * 6 + r0 i)) h.2.1).mpr (by rw [hue]; exact h.2.2); omega)) hI hm_37 hm_38 (fun j q0 q1 => hF_55 j q0 q1) (lv_sub hl [4, 5, 6, 7, 0] rfl)
            · -- 76: nI v_41 ge
              have c_56 : al (q * 6 + (r0 i)) ≤ v_41 := by have h := mt (nI_ltI (a := v_41) (b := al (q * 6 + (r0 i))) (by omega) (by omega)).mpr c_56; omega
              refine lv_iconst (v := nI 1) hx hb dX3_crowdedBy_79 (by decide) ?_
              subst hQ
              exact e_Ni hx hb hr rfl hlocks hI ⟨true, ff2_42, lf2_43, hm_37, hm_38, (fun j q0 q1 => hF_55 j q0 q1), ⟨rfl, ⟨fun _ => ⟨i, by omega, by rw [← hue]; exact hu4, by omega, by rw [← hue]; exact (hP_40.2 (al (q * 6 + r0 i)) (by omega)).mp (by omega)⟩, fun _ => rfl⟩⟩⟩ dX3_crowdedBy_80
  exact lp3_1 ((s0 - 0) + 1) 0 ff lf M s.heap [] ls (Nat.lt_succ_self _) (by omega) (fun ⟨j, hj, _⟩ => absurd hj (Nat.not_lt_zero j)) hI h20 h21 (fun j _ _ => rfl) (lv_sub hl [1, 2, 3, 4, 0] rfl)
