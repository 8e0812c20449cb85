section LM
variable {G : GG} {ad ad1 : Nat → Nat} {M M1 : Mem} {n : Nat} {kd : Nat → Nat} {fm to : Nat → Int32} {sz : Nat → Nat} {rl en : Nat → Nat → Nat}
theorem LSm.mv (h : LSm G ad M n kd fm to sz rl en) (hM : ∀ j, j = 16 ∨ j = 17 ∨ j = 18 ∨ 100 ≤ j ∧ j < 100 + 5 * n → M1 j = M j) (ha : ∀ j, j < 30 ∧ (0 < n ∨ j ≠ 18) ∨ 100 ≤ j ∧ j < 100 + 5 * n → ad1 j = ad j) : LSm G ad1 M1 n kd fm to sz rl en := by
  obtain ⟨h1, ⟨mcn, ed, h2, h3⟩, h4⟩ := h
  refine ⟨by rw [hM 16 (by omega), h1]; simp only [cLines, ha 17 (by omega), ha 19 (by omega), ha 20 (by omega), ha 21 (by omega)], ⟨mcn, ed, by rw [hM 17 (by omega)]; exact h2, fun hn => ?_⟩, fun i hi => ?_⟩
  · obtain ⟨a1, cap, lf, a2, a3, a4, a5⟩ := h3 hn
    refine ⟨a1.trans (ha 18 (by omega)).symm, cap, lf, by rw [hM 18 (by omega)]; exact a2, a3, a4, fun i hi => ?_⟩
    rw [a5 i hi, ha (100 + 5 * i) (by omega)]
  · obtain ⟨b1, b2, b3, b4, b5⟩ := h4 i hi
    rw [hM _ (by omega), hM _ (by omega), hM _ (by omega), hM _ (by omega), hM _ (by omega), b1, b2, b3, b4, b5]
    simp only [cLine, cEnds, ha (100 + 5 * i + 1) (by omega), ha (100 + 5 * i + 1 + 1) (by omega), ha (100 + 5 * i + 1 + 2) (by omega), ha (100 + 5 * i + 1 + 3) (by omega)]
    exact ⟨trivial, trivial, trivial, trivial, trivial⟩
theorem LSm.new {mcn2 : Int32} {cap2 : Nat} {lf2 : Nat → Option Nat} {y s0 : Nat} {f g : Int32} {r e : Nat → Nat} (h : LSm G ad M n kd fm to sz rl en) (hM : ∀ j, j = 16 ∨ 100 ≤ j ∧ j < 100 + 5 * n → M1 j = M j) (ha : ∀ j, j < 30 ∧ j ≠ 18 ∨ 100 ≤ j ∧ j < 100 + 5 * n → ad1 j = ad j) (h17 : M1 17 = some (cList ad1 mcn2 (ad1 18) (n + 1))) (h18 : M1 18 = some (aO G cap2 lf2)) (hc : n + 1 ≤ cap2 ∧ cap2 ≤ 1000) (hlf : ∀ i, i < n + 1 → lf2 i = some (ad1 (100 + 5 * i)))
    (k0 : M1 (100 + 5 * n) = some (cLine ad1 (100 + 5 * n) y f g)) (k1 : M1 (100 + 5 * n + 1) = some (cEnds ad1 (100 + 5 * n + 1) s0)) (k2 : M1 (100 + 5 * n + 2) = some (aI G 6 (nF r))) (k3 : M1 (100 + 5 * n + 3) = some (aI G 6 (oF (thE e)))) (k4 : M1 (100 + 5 * n + 4) = some (aI G 6 (oF (olE e)))) : LSm G ad1 M1 (n + 1) (va_up kd n y) (va_up fm n f) (va_up to n g) (va_up sz n s0) (va_up rl n r) (va_up en n e) := by
  obtain ⟨h1, -, h4⟩ := h
  refine ⟨by rw [hM 16 (by omega), h1]; simp only [cLines, ha 17 (by omega), ha 19 (by omega), ha 20 (by omega), ha 21 (by omega)], ⟨mcn2, ad1 18, h17, fun _ => ⟨rfl, cap2, lf2, h18, hc.1, hc.2, hlf⟩⟩, fun i hi => ?_⟩
  by_cases e9 : i = n
  · subst e9
    simp only [va_up_self]
    exact ⟨k0, k1, k2, k3, k4⟩
  · simp only [va_up_ne _ _ e9]
    obtain ⟨b1, b2, b3, b4, b5⟩ := h4 i (by omega)
    rw [hM _ (by omega), hM _ (by omega), hM _ (by omega), hM _ (by omega), hM _ (by omega), b1, b2, b3, b4, b5]
    simp only [cLine, cEnds, ha (100 + 5 * i + 1) (by omega), ha (100 + 5 * i + 1 + 1) (by omega), ha (100 + 5 * i + 1 + 2) (by omega), ha (100 + 5 * i + 1 + 3) (by omega)]
    exact ⟨trivial, trivial, trivial, trivial, trivial⟩
end LM
section CG
variable {r0 r1 e0 e1 : Nat → Nat} {s0 : Nat}
theorem cntR_cg {x : Nat} (h : ∀ j, j < s0 → r0 j = r1 j) : cntR r0 x s0 = cntR r1 x s0 := by
  induction s0 with
  | zero => rfl
  | succ n ih => rw [cntR, cntR, h n (by omega), ih (fun j hj => h j (by omega))]
theorem alw_cg {le mo : Nat → Nat} {y m : Nat} (h : ∀ j, j < s0 → r0 j = r1 j) : alw le mo r0 s0 y m ↔ alw le mo r1 s0 y m := by
  simp only [alw, cntR_cg h]
theorem brs_cg {fm to : Nat → Int32} {f g : Int32} (h : ∀ j, j < s0 → e0 j = e1 j) : brs fm to e0 f g s0 ↔ brs fm to e1 f g s0 := by
  simp only [brs]
  exact ⟨fun k j hj => by rw [← h j hj]; exact k j hj, fun k j hj => by rw [h j hj]; exact k j hj⟩
theorem crw_cg {n : Nat} {kd : Nat → Nat} {fm to : Nat → Int32} {sz : Nat → Nat} {rl en : Nat → Nat → Nat} {lst al : Nat → Nat} {y : Nat} {f g : Int32} (hr : ∀ j, j < s0 → r0 j = r1 j) (h : ∀ j, j < s0 → e0 j = e1 j) : crw n kd fm to sz rl en lst al y f g r0 e0 s0 ↔ crw n kd fm to sz rl en lst al y f g r1 e1 s0 := by
  simp only [crw, crw1]
  exact ⟨fun ⟨j, hj, k⟩ => ⟨j, hj, by rw [← h j hj, ← hr j hj]; exact k⟩, fun ⟨j, hj, k⟩ => ⟨j, hj, by rw [h j hj, hr j hj]; exact k⟩⟩
theorem frs_is {j : Nat} (hj : j < s0) : frs s0 r0 j = r0 j := if_pos hj
theorem frsE_is {j : Nat} (hj : j < s0) : frsE s0 e0 j = e0 j := if_pos hj
end CG

/-- Jx4a65c_size_8abf5 -/
abbrev rm_c_Jx_size_c : Room := { frames := 0, cells := 0, slots := 0, locals := 0 }
set_option maxHeartbeats 4000000 in
set_option maxRecDepth 100000 in
theorem c_Jx_size_c (l : Launch) (G : GG) (z : Nat) (ad : Nat → Nat) (M : Mem) {mcn : Int32} {ed : Nat} {n : Nat} (h17 : M 17 = some (cList ad mcn ed n))  : Met l yJx4a65c_size_8abf5 wsJx4a65c_size_8abf5 rm_c_Jx_size_c (Pr G z ad M [.ref (ad 17)]) (vp_Si (fun r : Int32 => r = nI n)) 0 0 (fun _ => False) := by
  refine Met.ofW (cc := cJx4a65c_size_8abf5) (maxL := 1) (ret := (some .int)) (by decide) rfl ?_
  intro p e s m args below meth c s₁ B hml hv
  obtain ⟨rfl, hv⟩ := hv
  have hI := Iv.entry hv
  have hx := B.exec
  have hb := B.bytes
  have hr := B.returns
  have hts := atoms_spec (ws := wsJx4a65c_size_8abf5) B.pre
  have hown : s.vm.findClass RJx4a65c = some m.cls := findClass_of_methodNamed B.named
  have hlocks := B.notSynchronized
  have i_RJx4a65c : ∀ w ∈ u_ws RJx4a65c TJx4a65c 3, w ∈ wsJx4a65c_size_8abf5 := fun w h => List.mem_cons_of_mem _ (iu_Jx4a65c w h)
  have f_48 := hts _ (List.mem_cons_of_mem _ (lwg_of t_134 rfl))
  have hl := lv_entry ([.ref (ad 17)]) (n := 1) (Nat.le_of_ble_eq_true rfl)
  rw [lg_entry_eq]
  generalize (lg_sl ([.ref (ad 17)]) ++ List.replicate (1 - (lg_sl ([.ref (ad 17)])).length) Slot.unset).toArray = ls at hl ⊢
  have hl : lv_has ls 1 [(0, .ref (ad 17))] := hl
  refine lv_aload_n hx hb dJx4a65c_size_8abf5_0 rfl (lv_at hl 0 rfl) ?_
  refine h_get (C := RJx4a65c) (T := TJx4a65c) (N := 3) hx hb hts i_RJx4a65c hown hI h17 rfl 2 (by decide) f_48 rfl rfl dJx4a65c_size_8abf5_1 ?_
  exact e_Ri hx hb hr rfl hlocks (rfl) dJx4a65c_size_8abf5_4

/-- X3_add -/
abbrev rm_c_X3_add_0 : Room := { frames := 5, cells := 1, slots := 200, locals := 117 }
set_option maxHeartbeats 4000000 in
set_option maxRecDepth 100000 in
theorem c_X3_add_0 (l : Launch) (G : GG) (z : Nat) (ad : Nat → Nat) (M : Mem) {mcn : Int32} {k : Nat} {kd : Nat} {fm : Int32} {to : Int32} (h16 : M 16 = some (cLines ad )) (h17 : M 17 = some (cList ad mcn G.2.2.2.2 0)) (hvk : M k = some (cLine ad k kd fm to)) (hk99 : 99 < k) (fre0 : M 18 = none) : Met l yX3_add wsX3_add rm_c_X3_add_0 (Pr G z ad M [.ref (ad 16), .ref (ad k)]) (Ai G z (fun (r : Int32) (u : (Nat → Nat) × Mem) => r = nI 0 ∧ u.2 17 = some (cList u.1 (mcn + nI 1) (u.1 18) 1) ∧ u.2 18 = some (aO G 10 (va_up (fun _ => none) 0 (some (u.1 k)))) ∧ (∀ j : Nat, j ≠ 17 → j ≠ 18 → u.2 j = M j) ∧ (∀ j : Nat, j ≠ 18 → u.1 j = ad j))) 1 200 (fr z) := by
  refine Met.ofW (cc := cX3_add) (maxL := 2) (ret := (some .int)) (by decide) rfl ?_
  intro p e s m args below meth c s₁ B hml hv
  obtain ⟨rfl, hv⟩ := hv
  have hI := Iv.entry hv
  have hx := B.exec
  have hb := B.bytes
  have hr := B.returns
  have hts := atoms_spec (ws := wsX3_add) B.pre
  have hown : s.vm.findClass RX3 = some m.cls := findClass_of_methodNamed B.named
  have hlocks := B.notSynchronized
  have i_RX3 : ∀ w ∈ u_ws RX3 TX3 4, w ∈ wsX3_add := fun w h => List.mem_cons_of_mem _ (iu_X3 w h)
  have f_12 := hts _ (List.mem_cons_of_mem _ (lwg_of t_145 rfl))
  have hl := lv_entry ([.ref (ad 16), .ref (ad k)]) (n := 2) (Nat.le_of_ble_eq_true rfl)
  rw [lg_entry_eq]
  generalize (lg_sl ([.ref (ad 16), .ref (ad k)]) ++ List.replicate (2 - (lg_sl ([.ref (ad 16), .ref (ad k)])).length) Slot.unset).toArray = ls at hl ⊢
  have hl : lv_has ls 2 [(0, .ref (ad 16)), (1, .ref (ad k))] := hl
  refine lv_aload_n hx hb dX3_add_0 rfl (lv_at hl 0 rfl) ?_
  refine h_get (C := RX3) (T := TX3) (N := 4) hx hb hts i_RX3 hown hI h16 rfl 0 (by decide) f_12 rfl rfl dX3_add_1 ?_
  refine lv_aload_n hx hb dX3_add_4 rfl (lv_at hl 1 rfl) ?_
  refine k_Ai (va_runV (As := [.ref (ad k)]) (rest := []) ⟨hx, hb, hml, hown, hts⟩ (c_Jx_add1_0 l G z ad M (mcn := mcn) (k := k) (kd := kd) (fm := fm) (to := to) h17 hvk (by omega) fre0) (cwV 1 hts (gV (lwg_of t_753 rfl) (lwg_of t_754 rfl) (lwg_of t_755 rfl) (lwg_of t_9 rfl) (lwg_of t_756 rfl)) rfl rfl rfl (by decide +kernel) ⟨Nat.le_of_ble_eq_true rfl, Nat.le_of_ble_eq_true rfl⟩) (hI.preV h17 rfl) rfl rfl hl.1 rfl (lv_room (Nat.le_of_ble_eq_true rfl)) dX3_add_5 ⟨Nat.le_of_ble_eq_true rfl, Nat.le_of_ble_eq_true rfl⟩) hI (fun r_1 ad_6 M_3 H_4 locs_5 hp_2 hI => ?_)
  obtain ⟨hr_7, hm_8, hm_9, hF_10, hAd_11⟩ := hp_2
  have hm_12 : M_3 17 = some (cList ad_6 (mcn + nI 1) (ad_6 18) 1) := hm_8
  have hm_13 : M_3 18 = some (aO G 10 (va_up (fun _ => none) 0 (some (ad_6 k)))) := hm_9
  have hAd_14 : ∀ j : Nat, j ≠ 18 → ad_6 j = ad j := hAd_11
  have hF_15 : ∀ j : Nat, j ≠ 17 → j ≠ 18 → M_3 j = M j := hF_10
  have hm_16 : M_3 16 = some (cLines ad_6 ) := by rw [hF_15 16 (by decide) (by decide), h16]; simp only [cLines, hAd_14 17 (by decide), hAd_14 19 (by decide), hAd_14 20 (by decide), hAd_14 21 (by decide)]
  have hm_17 : M_3 k = some (cLine ad_6 k kd fm to) := by rw [hF_15 k (by omega) (by omega), hvk]; simp only [cLine, hAd_14 (k + 1) (by omega)]
  have hF_18 : ∀ j : Nat, j ≠ 17 → j ≠ 18 → M_3 j = M j := fun j q0 q1 => (hF_15 j q0 q1)
  clear hF_10
  rw [hr_7]
  refine lv_pop hx hb dX3_add_8 rfl ?_
  refine lv_aload_n hx hb dX3_add_9 rfl (lv_at hl 0 rfl) ?_
  refine n_eqv (show Value.ref (ad 16) = .ref (ad_6 16) from by rw [hAd_14 16 (by decide)]) ?_
  refine h_get (C := RX3) (T := TX3) (N := 4) hx hb hts i_RX3 hown hI hm_16 rfl 0 (by decide) f_12 rfl rfl dX3_add_10 ?_
  refine k_Ri (va_runV (As := []) (rest := []) ⟨hx, hb, hml, hown, hts⟩ (c_Jx_size_c l G z ad_6 M_3 (mcn := mcn + nI 1) (ed := ad_6 18) (n := 1) hm_12) (cwV 0 hts (gV (lwg_of t_328 rfl) (lwg_of t_329 rfl) (lwg_of t_330 rfl) (lwg_of t_9 rfl) (lwg_of t_331 rfl)) rfl rfl rfl (by decide +kernel) ⟨Nat.le_of_ble_eq_true rfl, Nat.le_of_ble_eq_true rfl⟩) (hI.preV hm_12 rfl) rfl rfl hl.1 rfl (lv_room (Nat.le_of_ble_eq_true rfl)) dX3_add_13 ⟨Nat.le_of_ble_eq_true rfl, Nat.le_of_ble_eq_true rfl⟩) (fun _ h => h) (fun r_19 hp_20 => ?_)
  rw [hp_20]
  refine lv_iconst (v := nI 1) hx hb dX3_add_16 (by decide) ?_
  refine lv_isub hx hb dX3_add_17 ?_
  refine n_eq (pk_sub (a := 1) (b := 1) (by omega)) ?_
  exact e_Ai hx hb hr rfl hlocks hI ⟨rfl, hm_12, hm_13, (fun j q0 q1 => hF_18 j q0 q1), (fun j q0 => (by show ad_6 j = ad j; rw [hAd_14 j q0]))⟩ dX3_add_18

/-- X3_add -/
abbrev rm_c_X3_add_b : Room := { frames := 2, cells := 0, slots := 0, locals := 44 }
set_option maxHeartbeats 4000000 in
set_option maxRecDepth 100000 in
theorem c_X3_add_b (l : Launch) (G : GG) (z : Nat) (ad : Nat → Nat) (M : Mem) {mcn : Int32} {ed : Nat} {cap : Nat} {n : Nat} {lf : Nat → Option Nat} {k : Nat} {kd : Nat} {fm : Int32} {to : Int32} (h16 : M 16 = some (cLines ad )) (h17 : M 17 = some (cList ad mcn ed n)) (h18 : M 18 = some (aO G cap lf)) (hvk : M k = some (cLine ad k kd fm to)) (hk99 : 99 < k) (hed : ed = ad 18) (hn : n < cap ∧ cap ≤ 1000) : Met l yX3_add wsX3_add rm_c_X3_add_b (Pr G z ad M [.ref (ad 16), .ref (ad k)]) (Ni G z ad (fun (r : Int32) (M' : Mem) => r = nI n ∧ M' 17 = some (cList ad (mcn + nI 1) ed (n + 1)) ∧ M' 18 = some (aO G cap (va_up lf n (some (ad k)))) ∧ (∀ j : Nat, j ≠ 17 → j ≠ 18 → M' j = M j))) 0 0 (fr z) := by
  refine Met.ofW (cc := cX3_add) (maxL := 2) (ret := (some .int)) (by decide) rfl ?_
  intro p e s m args below meth c s₁ B hml hv
  obtain ⟨rfl, hv⟩ := hv
  have hI := Iv.entry hv
  have hx := B.exec
  have hb := B.bytes
  have hr := B.returns
  have hts := atoms_spec (ws := wsX3_add) B.pre
  have hown : s.vm.findClass RX3 = some m.cls := findClass_of_methodNamed B.named
  have hlocks := B.notSynchronized
  have i_RX3 : ∀ w ∈ u_ws RX3 TX3 4, w ∈ wsX3_add := fun w h => List.mem_cons_of_mem _ (iu_X3 w h)
  have f_12 := hts _ (List.mem_cons_of_mem _ (lwg_of t_145 rfl))
  have hl := lv_entry ([.ref (ad 16), .ref (ad k)]) (n := 2) (Nat.le_of_ble_eq_true rfl)
  rw [lg_entry_eq]
  generalize (lg_sl ([.ref (ad 16), .ref (ad k)]) ++ List.replicate (2 - (lg_sl ([.ref (ad 16), .ref (ad k)])).length) Slot.unset).toArray = ls at hl ⊢
  have hl : lv_has ls 2 [(0, .ref (ad 16)), (1, .ref (ad k))] := hl
  refine lv_aload_n hx hb dX3_add_0 rfl (lv_at hl 0 rfl) ?_
  refine h_get (C := RX3) (T := TX3) (N := 4) hx hb hts i_RX3 hown hI h16 rfl 0 (by decide) f_12 rfl rfl dX3_add_1 ?_
  refine lv_aload_n hx hb dX3_add_4 rfl (lv_at hl 1 rfl) ?_
  refine k_Ni (va_runV (As := [.ref (ad k)]) (rest := []) ⟨hx, hb, hml, hown, hts⟩ (c_Jx_add1_b l G z ad M (mcn := mcn) (ed := ed) (cap := cap) (n := n) (lf := lf) (k := k) (kd := kd) (fm := fm) (to := to) h17 h18 hvk (by omega) hed (by omega)) (cwV 1 hts (gV (lwg_of t_753 rfl) (lwg_of t_754 rfl) (lwg_of t_755 rfl) (lwg_of t_9 rfl) (lwg_of t_756 rfl)) rfl rfl rfl (by decide +kernel) ⟨Nat.le_of_ble_eq_true rfl, Nat.le_of_ble_eq_true rfl⟩) (hI.preV h17 rfl) rfl rfl hl.1 rfl (lv_room (Nat.le_of_ble_eq_true rfl)) dX3_add_5 ⟨Nat.le_of_ble_eq_true rfl, Nat.le_of_ble_eq_true rfl⟩) hI (fun r_1 M_3 H_4 locs_5 hp_2 hI => ?_)
  obtain ⟨hr_6, hm_7, hm_8, hF_9⟩ := hp_2
  have hm_10 : M_3 16 = some (cLines ad ) := by rw [hF_9 16 (by omega) (by omega)]; exact h16
  have hm_11 : M_3 k = some (cLine ad k kd fm to) := by rw [hF_9 k (by omega) (by omega)]; exact hvk
  have hF_12 : ∀ j : Nat, j ≠ 17 → j ≠ 18 → M_3 j = M j := fun j q0 q1 => (hF_9 j q0 q1)
  rw [hr_6]
  refine lv_pop hx hb dX3_add_8 rfl ?_
  refine lv_aload_n hx hb dX3_add_9 rfl (lv_at hl 0 rfl) ?_
  refine h_get (C := RX3) (T := TX3) (N := 4) hx hb hts i_RX3 hown hI hm_10 rfl 0 (by decide) f_12 rfl rfl dX3_add_10 ?_
  refine k_Ri (va_runV (As := []) (rest := []) ⟨hx, hb, hml, hown, hts⟩ (c_Jx_size_c l G z ad M_3 (mcn := mcn + nI 1) (ed := ed) (n := n + 1) hm_7) (cwV 0 hts (gV (lwg_of t_328 rfl) (lwg_of t_329 rfl) (lwg_of t_330 rfl) (lwg_of t_9 rfl) (lwg_of t_331 rfl)) rfl rfl rfl (by decide +kernel) ⟨Nat.le_of_ble_eq_true rfl, Nat.le_of_ble_eq_true rfl⟩) (hI.preV hm_7 rfl) rfl rfl hl.1 rfl (lv_room (Nat.le_of_ble_eq_true rfl)) dX3_add_13 ⟨Nat.le_of_ble_eq_true rfl, Nat.le_of_ble_eq_true rfl⟩) (fun _ h => h) (fun r_13 hp_14 => ?_)
  rw [hp_14]
  refine lv_iconst (v := nI 1) hx hb dX3_add_16 (by decide) ?_
  refine lv_isub hx hb dX3_add_17 ?_
  refine n_eq (pk_sub (a := (n + 1)) (b := 1) (by omega)) ?_
  exact e_Ni hx hb hr rfl hlocks hI ⟨(congrArg nI (Nat.add_sub_cancel (n := n) (m := 1))), hm_7, hm_8, (fun j q0 q1 => hF_12 j q0 q1)⟩ dX3_add_18

/-- X3_add -/
abbrev rm_c_X3_add_1 : Room := { frames := 7, cells := 1, slots := 200, locals := 191 }
set_option maxHeartbeats 4000000 in
set_option maxRecDepth 100000 in
theorem c_X3_add_1 (l : Launch) (G : GG) (z : Nat) (ad : Nat → Nat) (M : Mem) {mcn : Int32} {ed : Nat} {n : Nat} {lf : Nat → Option Nat} {k : Nat} {kd : Nat} {fm : Int32} {to : Int32} (h16 : M 16 = some (cLines ad )) (h17 : M 17 = some (cList ad mcn ed n)) (h18 : M 18 = some (aO G n lf)) (hvk : M k = some (cLine ad k kd fm to)) (hk99 : 99 < k) (hed : ed = ad 18) (hn : 0 < n ∧ n < 120) (hel : ∀ i, i < n → ∃ kv vs, lf i = some (ad kv) ∧ M kv = some (.inr (3, vs)) ∧ kv ≠ 29) (fre0 : M 29 = none) : Met l yX3_add wsX3_add rm_c_X3_add_1 (Pr G z ad M [.ref (ad 16), .ref (ad k)]) (Ai G z (fun (r : Int32) (u : (Nat → Nat) × Mem) => r = nI n ∧ u.2 17 = some (cList u.1 (mcn + nI 1) (u.1 18) (n + 1)) ∧ u.2 18 = some (aO G (n + max 1 (n / 2)) (va_up (va_cpy lf (fun _ => none) 0 0 n) n (some (u.1 k)))) ∧ (∀ j : Nat, j ≠ 17 → j ≠ 18 → u.2 j = M j) ∧ (∀ j : Nat, j ≠ 18 → u.1 j = ad j))) 1 200 (fr z) := by
  refine Met.ofW (cc := cX3_add) (maxL := 2) (ret := (some .int)) (by decide) rfl ?_
  intro p e s m args below meth c s₁ B hml hv
  obtain ⟨rfl, hv⟩ := hv
  have hI := Iv.entry hv
  have hx := B.exec
  have hb := B.bytes
  have hr := B.returns
  have hts := atoms_spec (ws := wsX3_add) B.pre
  have hown : s.vm.findClass RX3 = some m.cls := findClass_of_methodNamed B.named
  have hlocks := B.notSynchronized
  have i_RX3 : ∀ w ∈ u_ws RX3 TX3 4, w ∈ wsX3_add := fun w h => List.mem_cons_of_mem _ (iu_X3 w h)
  have f_12 := hts _ (List.mem_cons_of_mem _ (lwg_of t_145 rfl))
  have hl := lv_entry ([.ref (ad 16), .ref (ad k)]) (n := 2) (Nat.le_of_ble_eq_true rfl)
  rw [lg_entry_eq]
  generalize (lg_sl ([.ref (ad 16), .ref (ad k)]) ++ List.replicate (2 - (lg_sl ([.ref (ad 16), .ref (ad k)])).length) Slot.unset).toArray = ls at hl ⊢
  have hl : lv_has ls 2 [(0, .ref (ad 16)), (1, .ref (ad k))] := hl
  refine lv_aload_n hx hb dX3_add_0 rfl (lv_at hl 0 rfl) ?_
  refine h_get (C := RX3) (T := TX3) (N := 4) hx hb hts i_RX3 hown hI h16 rfl 0 (by decide) f_12 rfl rfl dX3_add_1 ?_
  refine lv_aload_n hx hb dX3_add_4 rfl (lv_at hl 1 rfl) ?_
  refine k_Ai (va_runV (As := [.ref (ad k)]) (rest := []) ⟨hx, hb, hml, hown, hts⟩ (c_Jx_add1_1 l G z ad M (mcn := mcn) (ed := ed) (n := n) (lf := lf) (k := k) (kd := kd) (fm := fm) (to := to) h17 h18 hvk (by omega) hed (by omega) hel fre0) (cwV 1 hts (gV (lwg_of t_753 rfl) (lwg_of t_754 rfl) (lwg_of t_755 rfl) (lwg_of t_9 rfl) (lwg_of t_756 rfl)) rfl rfl rfl (by decide +kernel) ⟨Nat.le_of_ble_eq_true rfl, Nat.le_of_ble_eq_true rfl⟩) (hI.preV h17 rfl) rfl rfl hl.1 rfl (lv_room (Nat.le_of_ble_eq_true rfl)) dX3_add_5 ⟨Nat.le_of_ble_eq_true rfl, Nat.le_of_ble_eq_true rfl⟩) hI (fun r_1 ad_6 M_3 H_4 locs_5 hp_2 hI => ?_)
  obtain ⟨hr_7, hm_8, hm_9, hF_10, hAd_11⟩ := hp_2
  have hm_12 : M_3 17 = some (cList ad_6 (mcn + nI 1) (ad_6 18) (n + 1)) := hm_8
  have hm_13 : M_3 18 = some (aO G (n + max 1 (n / 2)) (va_up (va_cpy lf (fun _ => none) 0 0 n) n (some (ad_6 k)))) := hm_9
  have hAd_14 : ∀ j : Nat, j ≠ 18 → ad_6 j = ad j := hAd_11
  have hF_15 : ∀ j : Nat, j ≠ 17 → j ≠ 18 → M_3 j = M j := hF_10
  have hm_16 : M_3 16 = some (cLines ad_6 ) := by rw [hF_15 16 (by decide) (by decide), h16]; simp only [cLines, hAd_14 17 (by decide), hAd_14 19 (by decide), hAd_14 20 (by decide), hAd_14 21 (by decide)]
  have hm_17 : M_3 k = some (cLine ad_6 k kd fm to) := by rw [hF_15 k (by omega) (by omega), hvk]; simp only [cLine, hAd_14 (k + 1) (by omega)]
  have fr_18 : M_3 29 = none := by rw [hF_15 29 (by decide) (by decide)]; exact fre0
  have hF_19 : ∀ j : Nat, j ≠ 17 → j ≠ 18 → M_3 j = M j := fun j q0 q1 => (hF_15 j q0 q1)
  clear hF_10
  rw [hr_7]
  refine lv_pop hx hb dX3_add_8 rfl ?_
  refine lv_aload_n hx hb dX3_add_9 rfl (lv_at hl 0 rfl) ?_
  refine n_eqv (show Value.ref (ad 16) = .ref (ad_6 16) from by rw [hAd_14 16 (by decide)]) ?_
  refine h_get (C := RX3) (T := TX3) (N := 4) hx hb hts i_RX3 hown hI hm_16 rfl 0 (by decide) f_12 rfl rfl dX3_add_10 ?_
  refine k_Ri (va_runV (As := []) (rest := []) ⟨hx, hb, hml, hown, hts⟩ (c_Jx_size_c l G z ad_6 M_3 (mcn := mcn + nI 1) (ed := ad_6 18) (n := n + 1) hm_12) (cwV 0 hts (gV (lwg_of t_328 rfl) (lwg_of t_329 rfl) (lwg_of t_330 rfl) (lwg_of t_9 rfl) (lwg_of t_331 rfl)) rfl rfl rfl (by decide +kernel) ⟨Nat.le_of_ble_eq_true rfl, Nat.le_of_ble_eq_true rfl⟩) (hI.preV hm_12 rfl) rfl rfl hl.1 rfl (lv_room (Nat.le_of_ble_eq_true rfl)) dX3_add_13 ⟨Nat.le_of_ble_eq_true rfl, Nat.le_of_ble_eq_true rfl⟩) (fun _ h => h) (fun r_20 hp_21 => ?_)
  rw [hp_21]
  refine lv_iconst (v := nI 1) hx hb dX3_add_16 (by decide) ?_
  refine lv_isub hx hb dX3_add_17 ?_
  refine n_eq (pk_sub (a := (n + 1)) (b := 1) (by omega)) ?_
  exact e_Ai hx hb hr rfl hlocks hI ⟨(congrArg nI (Nat.add_sub_cancel (n := n) (m := 1))), hm_12, hm_13, (fun j q0 q1 => hF_19 j q0 q1), (fun j q0 => (by show ad_6 j = ad j; rw [hAd_14 j q0]))⟩ dX3_add_18

/-- X9_put -/
abbrev rm_c_X9_putk_no : Room := { frames := 6, cells := 5, slots := 26, locals := 139 }
set_option maxHeartbeats 4000000 in
set_option maxRecDepth 100000 in
theorem c_X9_putk_no (l : Launch) (G : GG) (z : Nat) (ad : Nat → Nat) (M : Mem) {n : Nat} {kd : Nat → Nat} {fm : Nat → Int32} {to : Nat → Int32} {sz : Nat → Nat} {rl : Nat → Nat → Nat} {en : Nat → Nat → Nat} {qa : Nat} {qs : Nat} {fw : Int32} {s0 : Nat} {r0 : Nat → Nat} {th : Nat → Option Nat} {ol : Nat → Option Nat} {e0 : Nat → Nat} {le : Nat → Nat} {mo : Nat → Nat} {al : Nat → Nat} {jn : Nat} {lst : Nat → Nat} {ff : Nat → Int32} {lq : Nat → Int32} {y : Nat} {f : Nat} {g : Nat} {w : Nat} (h0 : M 0 = some (cStore ad qa qs fw)) (h12 : M 12 = some (cEnds ad 12 s0)) (h13 : M 13 = some (aI G 6 (nF r0))) (h14 : M 14 = some (aI G 6 (oF th))) (h15 : M 15 = some (aI G 6 (oF ol))) (h16 : M 16 = some (cLines ad )) (h3 : M 3 = some (cLaws ad )) (h4 : M 4 = some (aI G 36 (nF le))) (h5 : M 5 = some (aI G 36 (nF mo))) (h6 : M 6 = some (aI G 36 (nF al))) (h8 : M 8 = some (cOnes ad jn)) (h10 : M 10 = some (aI G 40 (nF lst))) (h20 : M 20 = some (aI G 120 ff)) (h21 : M 21 = some (aI G 120 lq)) (hqa : 29 < qa ∧ qa < 51) (hqs : 29 < qs ∧ qs < 51) (hL : LSm G ad M n kd fm to sz rl en) (hw : LSw n kd sz rl en) (hs1 : 0 < s0) (hs0 : s0 ≤ 6) (hn1 : n < 120) (hr0 : ∀ j, j < s0 → r0 j < 6) (he0 : ∀ j, j < s0 → e0 j < 40 + n) (hth : ∀ j, j < s0 → th j = thE e0 j) (hol : ∀ j, j < s0 → ol j = olE e0 j) (hlst : ∀ u, u < 40 → lst u < 40) (hy : y < 6) (hfg : f ≤ g ∧ g ≤ 1000) (hle : ∀ j, j < 36 → le j < 100) (hmo : ∀ j, j < 36 → mo j < 100) (hal : ∀ j, j < 36 → al j ≤ 100) (hwhy : w = 1 ∧ ¬ alw le mo r0 s0 y 6 ∨ w = 2 ∧ alw le mo r0 s0 y 6 ∧ ¬ brs fm to e0 (nI f) (nI g) s0 ∨ w = 3 ∧ alw le mo r0 s0 y 6 ∧ brs fm to e0 (nI f) (nI g) s0 ∧ crw n kd fm to sz rl en lst al y (nI f) (nI g) r0 e0 s0) (fre0 : M (100 + 5 * n) = none) (fre1 : M (100 + 5 * n + 1) = none) (fre2 : M (100 + 5 * n + 2) = none) (fre3 : M (100 + 5 * n + 3) = none) (fre4 : M (100 + 5 * n + 4) = none) : Met l yX9_put wsX9_put rm_c_X9_putk_no (Pr G z ad M [.ref (ad 0), .int (nI y), .int (nI f), .int (nI g)]) (Ai G z (fun (r : Int32) (u : (Nat → Nat) × Mem) => ∃ ff2 : Nat → Int32, ∃ lq2 : Nat → Int32, r = -(nI w) ∧ u.2 12 = some (cEnds u.1 12 0) ∧ u.2 20 = some (aI G 120 ff2) ∧ u.2 21 = some (aI G 120 lq2) ∧ u.2 (100 + 5 * n) = some (cLine u.1 (100 + 5 * n) y (nI f) (nI g)) ∧ u.2 (100 + 5 * n + 1) = some (cEnds u.1 (100 + 5 * n + 1) s0) ∧ u.2 (100 + 5 * n + 2) = some (aI G 6 (nF (frs s0 r0))) ∧ u.2 (100 + 5 * n + 3) = some (aI G 6 (oF (thE (frsE s0 e0)))) ∧ u.2 (100 + 5 * n + 4) = some (aI G 6 (oF (olE (frsE s0 e0)))) ∧ (∀ j : Nat, j ≠ 12 → j ≠ 20 → j ≠ 21 → j ≠ (100 + 5 * n) → j ≠ (100 + 5 * n + 1) → j ≠ (100 + 5 * n + 2) → j ≠ (100 + 5 * n + 3) → j ≠ (100 + 5 * n + 4) → u.2 j = M j) ∧ (∀ j : Nat, j ≠ (100 + 5 * n) → j ≠ (100 + 5 * n + 1) → j ≠ (100 + 5 * n + 2) → j ≠ (100 + 5 * n + 3) → j ≠ (100 + 5 * n + 4) → u.1 j = ad j))) 5 26 (fr z) := by
  refine Met.ofW (cc := cX9_put) (maxL := 6) (ret := (some .int)) (by decide) rfl ?_
  intro p e s m args below meth c s₁ B hml hv
  obtain ⟨rfl, hv⟩ := hv
  have hI := Iv.entry hv
  have hx := B.exec
  have hb := B.bytes
  have hr := B.returns
  have hts := atoms_spec (ws := wsX9_put) B.pre
  have hown : s.vm.findClass RX9 = some m.cls := findClass_of_methodNamed B.named
  have hlocks := B.notSynchronized
  have i_RX9 : ∀ w ∈ u_ws RX9 TX9 10, w ∈ wsX9_put := fun w h => List.mem_cons_of_mem _ (iu_X9 w h)
  have f_33 := hts _ (List.mem_cons_of_mem _ (lwg_of t_242 rfl))
  have f_40 := hts _ (List.mem_cons_of_mem _ (lwg_of t_243 rfl))
  have nw_i136 := hts _ (List.mem_cons_of_mem _ (lwg_of t_643 rfl))
  have nw_n136 := hts _ (List.mem_cons_of_mem _ (lwg_of t_21 rfl))
  have i_RX2 : ∀ w ∈ u_ws RX2 TX2 4, w ∈ wsX9_put := fun w h => List.mem_cons_of_mem _ (iu_X2 w h)
  have nw_c136 := hts _ (List.mem_cons_of_mem _ (lwg_of t_642 rfl))
  have sp_142 := hts _ (List.mem_cons_of_mem _ (lwg_of t_21 rfl))
  have in_142 := hts _ (List.mem_cons_of_mem _ (lwg_of t_654 rfl))
  have ml_142 := hts _ (List.mem_cons_of_mem _ (lwg_of t_653 rfl))
  have hl := lv_entry ([.ref (ad 0), .int (nI y), .int (nI f), .int (nI g)]) (n := 6) (Nat.le_of_ble_eq_true rfl)
  rw [lg_entry_eq]
  generalize (lg_sl ([.ref (ad 0), .int (nI y), .int (nI f), .int (nI g)]) ++ List.replicate (6 - (lg_sl ([.ref (ad 0), .int (nI y), .int (nI f), .int (nI g)])).length) Slot.unset).toArray = ls at hl ⊢
  have hl : lv_has ls 6 [(0, .ref (ad 0)), (1, .int (nI y)), (2, .int (nI f)), (3, .int (nI g))] := hl
  have hw1 := hw.1
  have hw9 : 0 < w ∧ w ≤ 3 := by rcases hwhy with h | h | h <;> omega
  refine lv_iload_n hx hb dX9_put_0 rfl (lv_at hl 1 rfl) ?_
  refine k_Nv (va_runS (As := [.int (nI y)]) (rest := []) ⟨hx, hb, hml, hown, hts⟩ (c_X9_checkKind l G z ad M (t := y) hy) (va_cwS 1 hts (gS (lwg_of t_477 rfl) (lwg_of t_478 rfl) (lwg_of t_1 rfl) (lwg_of t_479 rfl)) rfl rfl rfl (by decide +kernel) ⟨Nat.le_of_ble_eq_true rfl, Nat.le_of_ble_eq_true rfl⟩) hI.preS rfl rfl hl.1 rfl (lv_room (Nat.le_of_ble_eq_true rfl)) dX9_put_1 ⟨Nat.le_of_ble_eq_true rfl, Nat.le_of_ble_eq_true rfl⟩) hI (fun M_3 H_4 locs_5 hp_2 hI => ?_)
  have eM_6 : M = M_3 := (funext hp_2).symm
  subst eM_6
  refine lv_iload_n hx hb dX9_put_4 rfl (lv_at hl 2 rfl) ?_
  refine lv_if_lt (tgt := 20) hx hb dX9_put_5 (by decide) (fun c_7 => ?_) (fun c_7 => ?_)
  · -- 5: nI f lt
    have c_7 : f < 0 := (nI_ltI (a := f) (b := 0) (by omega) (by omega)).mp (c_7)
    omega
  · -- 5: nI f ge
    have c_7 : 0 ≤ f := by have h := mt (nI_ltI (a := f) (b := 0) (by omega) (by omega)).mpr c_7; omega
    refine lv_iload_n hx hb dX9_put_8 rfl (lv_at hl 2 rfl) ?_
    refine lv_iload_n hx hb dX9_put_9 rfl (lv_at hl 3 rfl) ?_
    refine lv_icmp_gt (tgt := 20) hx hb dX9_put_10 (by decide) (fun c_8 => ?_) (fun c_8 => ?_)
    · -- 10: nI f gt
      have c_8 : g < f := (nI_ltI (a := g) (b := f) (by omega) (by omega)).mp (c_8)
      omega
    · -- 10: nI f le
      have c_8 : f ≤ g := by have h := mt (nI_ltI (a := g) (b := f) (by omega) (by omega)).mpr c_8; omega
      refine lv_iload_n hx hb dX9_put_13 rfl (lv_at hl 3 rfl) ?_
      refine lv_sipush (v := nI 1000) hx hb dX9_put_14 (by decide) ?_
      refine lv_icmp_le (tgt := 30) hx hb dX9_put_17 (by decide) (fun c_9 => ?_) (fun c_9 => ?_)
      · -- 17: nI g le
        have c_9 : g ≤ 1000 := (nI_leI (a := g) (b := 1000) (by omega) (by omega)).mp (c_9)
        refine lv_aload_n hx hb dX9_put_30 rfl (lv_at hl 0 rfl) ?_
        refine h_get (C := RX9) (T := TX9) (N := 10) hx hb hts i_RX9 hown hI h0 rfl 3 (by decide) f_33 rfl rfl dX9_put_31 ?_
        refine k_Ri (va_runV (As := []) (rest := []) ⟨hx, hb, hml, hown, hts⟩ (c_X0_size l G z ad M (k := 12) (sz := s0) h12) (cwV 0 hts (gV (lwg_of t_450 rfl) (lwg_of t_451 rfl) (lwg_of t_452 rfl) (lwg_of t_5 rfl) (lwg_of t_453 rfl)) rfl rfl rfl (by decide +kernel) ⟨Nat.le_of_ble_eq_true rfl, Nat.le_of_ble_eq_true rfl⟩) (hI.preV h12 rfl) rfl rfl hl.1 rfl (lv_room (Nat.le_of_ble_eq_true rfl)) dX9_put_34 ⟨Nat.le_of_ble_eq_true rfl, Nat.le_of_ble_eq_true rfl⟩) (fun _ h => h) (fun r_10 hp_11 => ?_)
        rw [hp_11]
        refine lv_if_ne (tgt := 50) hx hb dX9_put_37 (by decide) (fun c_12 => ?_) (fun c_12 => ?_)
        · -- 37: nI s0 ne
          have c_12 : s0 ≠ 0 := by have h := mt (nI_eq (a := s0) (b := 0) (by omega) (by omega)).mpr c_12; omega
          refine lv_aload_n hx hb dX9_put_50 rfl (lv_at hl 0 rfl) ?_
          refine h_get (C := RX9) (T := TX9) (N := 10) hx hb hts i_RX9 hown hI h0 rfl 4 (by decide) f_40 rfl rfl dX9_put_51 ?_
          refine k_Ri (va_runV (As := []) (rest := []) ⟨hx, hb, hml, hown, hts⟩ (c_X3_size l G z ad M (n := n) (kd := kd) (fm := fm) (to := to) (sz := sz) (rl := rl) (en := en) hL) (cwV 0 hts (gV (lwg_of t_449 rfl) (lwg_of t_325 rfl) (lwg_of t_326 rfl) (lwg_of t_6 rfl) (lwg_of t_327 rfl)) rfl rfl rfl (by decide +kernel) ⟨Nat.le_of_ble_eq_true rfl, Nat.le_of_ble_eq_true rfl⟩) (hI.preV h16 rfl) rfl rfl hl.1 rfl (lv_room (Nat.le_of_ble_eq_true rfl)) dX9_put_54 ⟨Nat.le_of_ble_eq_true rfl, Nat.le_of_ble_eq_true rfl⟩) (fun _ h => h) (fun r_13 hp_14 => ?_)
          rw [hp_14]
          refine lv_bipush (v := nI 120) hx hb dX9_put_57 (by decide) ?_
          refine lv_icmp_lt (tgt := 72) hx hb dX9_put_59 (by decide) (fun c_15 => ?_) (fun c_15 => ?_)
          · -- 59: nI n lt
            have c_15 : n < 120 := (nI_ltI (a := n) (b := 120) (by omega) (by omega)).mp (c_15)
            refine h_new (C := RX2) (T := TX2) (N := 4) (ci := 3) (fs := [.int (nI 0), .int (nI 0), .int (nI 0), .null]) hx hb hts i_RX2 tyX2 tyX2_ok hown nw_c136 nw_i136 nw_n136 hI rfl (fun j hj => match j, hj with | 0, _ => rfl | 1, _ => rfl | 2, _ => rfl | 3, _ => rfl | n + 4, h => absurd h (by omega)) (Nat.le_of_ble_eq_true rfl) (Nat.le_of_ble_eq_true rfl) dX9_put_72 (100 + 5 * n) fre0 (fun ad_16 M_17 H_18 hA_19 eM_20 hI => ?_)
            have hAd_22 : ∀ j : Nat, j ≠ (100 + 5 * n) → ad_16 j = ad j := fun j hj => by obtain ⟨q, e⟩ := hA_19; rw [e]; exact va_up_ne _ _ hj
            have hm_23 : M_17 (100 + 5 * n) = some (.inr (3, [.int (nI 0), .int (nI 0), .int (nI 0), .null])) := by rw [eM_20]; exact va_up_self _ _ _
            have hm_24 : M_17 0 = some (cStore ad_16 qa qs fw) := by rw [eM_20, va_up_ne _ _ (by omega), h0]; simp only [cStore, hAd_22 1 (by omega), hAd_22 3 (by omega), hAd_22 8 (by omega), hAd_22 12 (by omega), hAd_22 16 (by omega), hAd_22 22 (by omega), hAd_22 23 (by omega), hAd_22 qa (by omega), hAd_22 qs (by omega)]
            have hm_25 : M_17 12 = some (cEnds ad_16 12 s0) := by rw [eM_20, va_up_ne _ _ (by omega), h12]; simp only [cEnds, hAd_22 13 (by omega), hAd_22 14 (by omega), hAd_22 15 (by omega)]
            have hm_26 : M_17 13 = some (aI G 6 (nF r0)) := by rw [eM_20, va_up_ne _ _ (by omega), h13]
            have hm_27 : M_17 14 = some (aI G 6 (oF th)) := by rw [eM_20, va_up_ne _ _ (by omega), h14]
            have hm_28 : M_17 15 = some (aI G 6 (oF ol)) := by rw [eM_20, va_up_ne _ _ (by omega), h15]
            have hm_29 : M_17 16 = some (cLines ad_16 ) := by rw [eM_20, va_up_ne _ _ (by omega), h16]; simp only [cLines, hAd_22 17 (by omega), hAd_22 19 (by omega), hAd_22 20 (by omega), hAd_22 21 (by omega)]
            have hm_30 : M_17 3 = some (cLaws ad_16 ) := by rw [eM_20, va_up_ne _ _ (by omega), h3]; simp only [cLaws, hAd_22 4 (by omega), hAd_22 5 (by omega), hAd_22 6 (by omega), hAd_22 7 (by omega)]
            have hm_31 : M_17 4 = some (aI G 36 (nF le)) := by rw [eM_20, va_up_ne _ _ (by omega), h4]
            have hm_32 : M_17 5 = some (aI G 36 (nF mo)) := by rw [eM_20, va_up_ne _ _ (by omega), h5]
            have hm_33 : M_17 6 = some (aI G 36 (nF al)) := by rw [eM_20, va_up_ne _ _ (by omega), h6]
            have hm_34 : M_17 8 = some (cOnes ad_16 jn) := by rw [eM_20, va_up_ne _ _ (by omega), h8]; simp only [cOnes, hAd_22 9 (by omega), hAd_22 10 (by omega), hAd_22 11 (by omega)]
            have hm_35 : M_17 10 = some (aI G 40 (nF lst)) := by rw [eM_20, va_up_ne _ _ (by omega), h10]
            have hm_36 : M_17 20 = some (aI G 120 ff) := by rw [eM_20, va_up_ne _ _ (by omega), h20]
            have hm_37 : M_17 21 = some (aI G 120 lq) := by rw [eM_20, va_up_ne _ _ (by omega), h21]
            have fr_38 : M_17 (100 + 5 * n + 1) = none := by rw [eM_20, va_up_ne _ _ (by omega)]; exact fre1
            have fr_39 : M_17 (100 + 5 * n + 2) = none := by rw [eM_20, va_up_ne _ _ (by omega)]; exact fre2
            have fr_40 : M_17 (100 + 5 * n + 3) = none := by rw [eM_20, va_up_ne _ _ (by omega)]; exact fre3
            have fr_41 : M_17 (100 + 5 * n + 4) = none := by rw [eM_20, va_up_ne _ _ (by omega)]; exact fre4
            have hF_42 : ∀ j : Nat, j ≠ (100 + 5 * n) → M_17 j = M j := fun j q0 => by rw [eM_20, va_up_ne _ _ q0]
            refine lv_dup hx hb dX9_put_75 rfl ?_
            refine lv_iload_n hx hb dX9_put_76 rfl (lv_at hl 1 rfl) ?_
            refine lv_iload_n hx hb dX9_put_77 rfl (lv_at hl 2 rfl) ?_
            refine lv_iload_n hx hb dX9_put_78 rfl (lv_at hl 3 rfl) ?_
            refine lv_aload_n hx hb dX9_put_79 rfl (lv_at hl 0 rfl) ?_
            refine n_eqv (show Value.ref (ad 0) = .ref (ad_16 0) from by rw [hAd_22 0 (by omega)]) ?_
            refine h_get (C := RX9) (T := TX9) (N := 10) hx hb hts i_RX9 hown hI hm_24 rfl 3 (by decide) f_33 rfl rfl dX9_put_80 ?_
            refine k_Aq (va_runV (As := []) (rest := [.int (nI g), .int (nI f), .int (nI y), .ref (ad_16 (100 + 5 * n)), .ref (ad_16 (100 + 5 * n))]) ⟨hx, hb, hml, hown, hts⟩ (c_X0_copy l G z ad_16 M_17 (k := 100 + 5 * n + 1) (sz := s0) (rl := r0) (th := th) (ol := ol) (e0 := e0) hm_25 hm_26 hm_27 hm_28 hs0 (by omega) hth hol fr_38 fr_39 fr_40 fr_41) (cwV 0 hts (gV (lwg_of t_644 rfl) (lwg_of t_645 rfl) (lwg_of t_646 rfl) (lwg_of t_5 rfl) (lwg_of t_647 rfl)) rfl rfl rfl (by decide +kernel) ⟨Nat.le_of_ble_eq_true rfl, Nat.le_of_ble_eq_true rfl⟩) (hI.preV hm_25 rfl) rfl rfl hl.1 rfl (lv_room (Nat.le_of_ble_eq_true rfl)) dX9_put_83 ⟨Nat.le_of_ble_eq_true rfl, Nat.le_of_ble_eq_true rfl⟩) hI (fun r_43 ad_48 M_45 H_46 locs_47 hp_44 hI => ?_)
            obtain ⟨hr_49, hm_50, hm_51, hm_52, hm_53, hF_54, hAd_55⟩ := hp_44
            have hm_56 : M_45 (100 + 5 * n + 1) = some (cEnds ad_48 (100 + 5 * n + 1) s0) := hm_50
            have hm_57 : M_45 (100 + 5 * n + 2) = some (aI G 6 (nF (frs s0 r0))) := hm_51
            have hm_58 : M_45 (100 + 5 * n + 3) = some (aI G 6 (oF (thE (frsE s0 e0)))) := hm_52
            have hm_59 : M_45 (100 + 5 * n + 4) = some (aI G 6 (oF (olE (frsE s0 e0)))) := hm_53
            have hAd_60 : ∀ j : Nat, j ≠ (100 + 5 * n + 1) → j ≠ (100 + 5 * n + 2) → j ≠ (100 + 5 * n + 3) → j ≠ (100 + 5 * n + 4) → ad_48 j = ad_16 j := hAd_55
            have hF_61 : ∀ j : Nat, j ≠ (100 + 5 * n + 1) → j ≠ (100 + 5 * n + 2) → j ≠ (100 + 5 * n + 3) → j ≠ (100 + 5 * n + 4) → M_45 j = M_17 j := hF_54
            have hm_62 : M_45 0 = some (cStore ad_48 qa qs fw) := by rw [hF_61 0 (by omega) (by omega) (by omega) (by omega), hm_24]; simp only [cStore, hAd_60 1 (by omega) (by omega) (by omega) (by omega), hAd_60 3 (by omega) (by omega) (by omega) (by omega), hAd_60 8 (by omega) (by omega) (by omega) (by omega), hAd_60 12 (by omega) (by omega) (by omega) (by omega), hAd_60 16 (by omega) (by omega) (by omega) (by omega), hAd_60 22 (by omega) (by omega) (by omega) (by omega), hAd_60 23 (by omega) (by omega) (by omega) (by omega), hAd_60 qa (by omega) (by omega) (by omega) (by omega), hAd_60 qs (by omega) (by omega) (by omega) (by omega)]
            have hm_63 : M_45 12 = some (cEnds ad_48 12 s0) := by rw [hF_61 12 (by omega) (by omega) (by omega) (by omega), hm_25]; simp only [cEnds, hAd_60 13 (by omega) (by omega) (by omega) (by omega), hAd_60 14 (by omega) (by omega) (by omega) (by omega), hAd_60 15 (by omega) (by omega) (by omega) (by omega)]
            have hm_64 : M_45 13 = some (aI G 6 (nF r0)) := by rw [hF_61 13 (by omega) (by omega) (by omega) (by omega), hm_26]
            have hm_65 : M_45 14 = some (aI G 6 (oF th)) := by rw [hF_61 14 (by omega) (by omega) (by omega) (by omega), hm_27]
            have hm_66 : M_45 15 = some (aI G 6 (oF ol)) := by rw [hF_61 15 (by omega) (by omega) (by omega) (by omega), hm_28]
            have hm_67 : M_45 16 = some (cLines ad_48 ) := by rw [hF_61 16 (by omega) (by omega) (by omega) (by omega), hm_29]; simp only [cLines, hAd_60 17 (by omega) (by omega) (by omega) (by omega), hAd_60 19 (by omega) (by omega) (by omega) (by omega), hAd_60 20 (by omega) (by omega) (by omega) (by omega), hAd_60 21 (by omega) (by omega) (by omega) (by omega)]
            have hm_68 : M_45 3 = some (cLaws ad_48 ) := by rw [hF_61 3 (by omega) (by omega) (by omega) (by omega), hm_30]; simp only [cLaws, hAd_60 4 (by omega) (by omega) (by omega) (by omega), hAd_60 5 (by omega) (by omega) (by omega) (by omega), hAd_60 6 (by omega) (by omega) (by omega) (by omega), hAd_60 7 (by omega) (by omega) (by omega) (by omega)]
            have hm_69 : M_45 4 = some (aI G 36 (nF le)) := by rw [hF_61 4 (by omega) (by omega) (by omega) (by omega), hm_31]
            have hm_70 : M_45 5 = some (aI G 36 (nF mo)) := by rw [hF_61 5 (by omega) (by omega) (by omega) (by omega), hm_32]
            have hm_71 : M_45 6 = some (aI G 36 (nF al)) := by rw [hF_61 6 (by omega) (by omega) (by omega) (by omega), hm_33]
            have hm_72 : M_45 8 = some (cOnes ad_48 jn) := by rw [hF_61 8 (by omega) (by omega) (by omega) (by omega), hm_34]; simp only [cOnes, hAd_60 9 (by omega) (by omega) (by omega) (by omega), hAd_60 10 (by omega) (by omega) (by omega) (by omega), hAd_60 11 (by omega) (by omega) (by omega) (by omega)]
            have hm_73 : M_45 10 = some (aI G 40 (nF lst)) := by rw [hF_61 10 (by omega) (by omega) (by omega) (by omega), hm_35]
            have hm_74 : M_45 20 = some (aI G 120 ff) := by rw [hF_61 20 (by omega) (by omega) (by omega) (by omega), hm_36]
            have hm_75 : M_45 21 = some (aI G 120 lq) := by rw [hF_61 21 (by omega) (by omega) (by omega) (by omega), hm_37]
            have hm_76 : M_45 (100 + 5 * n) = some (.inr (3, [.int (nI 0), .int (nI 0), .int (nI 0), .null])) := by rw [hF_61 (100 + 5 * n) (by omega) (by omega) (by omega) (by omega), hm_23]
            clear hm_24 hm_25 hm_26 hm_27 hm_28 hm_29 hm_30 hm_31 hm_32 hm_33 hm_34 hm_35 hm_36 hm_37 hm_23
            have hF_77 : ∀ j : Nat, j ≠ (100 + 5 * n) → j ≠ (100 + 5 * n + 1) → j ≠ (100 + 5 * n + 2) → j ≠ (100 + 5 * n + 3) → j ≠ (100 + 5 * n + 4) → M_45 j = M j := fun j q0 q1 q2 q3 q4 => (hF_61 j q1 q2 q3 q4).trans (hF_42 j q0)
            clear hF_42 hF_54
            rw [hr_49]; show W _ _ _ _ _ _ _ _ _ _ _ _ _ _ _ (F0 m 86 ls (.ref (ad_48 (100 + 5 * n + 1)) :: [.int (nI g), .int (nI f), .int (nI y), .ref (ad_16 (100 + 5 * n)), .ref (ad_16 (100 + 5 * n))]))
            refine n_eqs (show ([.ref (ad_48 (100 + 5 * n + 1)), .int (nI g), .int (nI f), .int (nI y), .ref (ad_16 (100 + 5 * n)), .ref (ad_16 (100 + 5 * n))] : List Value) = [.ref (ad_48 (100 + 5 * n + 1)), .int (nI g), .int (nI f), .int (nI y), .ref (ad_48 (100 + 5 * n)), .ref (ad_48 (100 + 5 * n))] from by rw [hAd_60 (100 + 5 * n) (by omega) (by omega) (by omega) (by omega)]) ?_
            refine k_Nv (va_runI (As := [.int (nI y), .int (nI f), .int (nI g), .ref (ad_48 (100 + 5 * n + 1))]) (rest := [.ref (ad_48 (100 + 5 * n))]) ⟨hx, hb, hml, hown, hts⟩ (c_X2_init l G z ad_48 M_45 (k := 100 + 5 * n) (kd := y) (fm := nI f) (to := nI g) hm_76) (cwI 4 hts (gU (lwg_of t_655 rfl)) rfl rfl rfl sp_142 ml_142 in_142 rfl (by decide +kernel) ⟨Nat.le_of_ble_eq_true rfl, Nat.le_of_ble_eq_true rfl⟩) hI.preS rfl rfl hl.1 rfl (lv_room (Nat.le_of_ble_eq_true rfl)) dX9_put_86 ⟨Nat.le_of_ble_eq_true rfl, Nat.le_of_ble_eq_true rfl⟩) hI (fun M_80 H_81 locs_82 hp_79 hI => ?_)
            obtain ⟨hm_83, hF_84⟩ := hp_79
            have hm_85 : M_80 0 = some (cStore ad_48 qa qs fw) := by rw [hF_84 0 (by omega)]; exact hm_62
            have hm_86 : M_80 12 = some (cEnds ad_48 12 s0) := by rw [hF_84 12 (by omega)]; exact hm_63
            have hm_87 : M_80 13 = some (aI G 6 (nF r0)) := by rw [hF_84 13 (by omega)]; exact hm_64
            have hm_88 : M_80 14 = some (aI G 6 (oF th)) := by rw [hF_84 14 (by omega)]; exact hm_65
            have hm_89 : M_80 15 = some (aI G 6 (oF ol)) := by rw [hF_84 15 (by omega)]; exact hm_66
            have hm_90 : M_80 16 = some (cLines ad_48 ) := by rw [hF_84 16 (by omega)]; exact hm_67
            have hm_91 : M_80 3 = some (cLaws ad_48 ) := by rw [hF_84 3 (by omega)]; exact hm_68
            have hm_92 : M_80 4 = some (aI G 36 (nF le)) := by rw [hF_84 4 (by omega)]; exact hm_69
            have hm_93 : M_80 5 = some (aI G 36 (nF mo)) := by rw [hF_84 5 (by omega)]; exact hm_70
            have hm_94 : M_80 6 = some (aI G 36 (nF al)) := by rw [hF_84 6 (by omega)]; exact hm_71
            have hm_95 : M_80 8 = some (cOnes ad_48 jn) := by rw [hF_84 8 (by omega)]; exact hm_72
            have hm_96 : M_80 10 = some (aI G 40 (nF lst)) := by rw [hF_84 10 (by omega)]; exact hm_73
            have hm_97 : M_80 20 = some (aI G 120 ff) := by rw [hF_84 20 (by omega)]; exact hm_74
            have hm_98 : M_80 21 = some (aI G 120 lq) := by rw [hF_84 21 (by omega)]; exact hm_75
            have hm_99 : M_80 (100 + 5 * n + 1) = some (cEnds ad_48 (100 + 5 * n + 1) s0) := by rw [hF_84 (100 + 5 * n + 1) (by omega)]; exact hm_56
            have hm_100 : M_80 (100 + 5 * n + 2) = some (aI G 6 (nF (frs s0 r0))) := by rw [hF_84 (100 + 5 * n + 2) (by omega)]; exact hm_57
            have hm_101 : M_80 (100 + 5 * n + 3) = some (aI G 6 (oF (thE (frsE s0 e0)))) := by rw [hF_84 (100 + 5 * n + 3) (by omega)]; exact hm_58
            have hm_102 : M_80 (100 + 5 * n + 4) = some (aI G 6 (oF (olE (frsE s0 e0)))) := by rw [hF_84 (100 + 5 * n + 4) (by omega)]; exact hm_59
            have hF_103 : ∀ j : Nat, j ≠ (100 + 5 * n) → j ≠ (100 + 5 * n + 1) → j ≠ (100 + 5 * n + 2) → j ≠ (100 + 5 * n + 3) → j ≠ (100 + 5 * n + 4) → M_80 j = M j := fun j q0 q1 q2 q3 q4 => (hF_84 j q0).trans (hF_77 j q0 q1 q2 q3 q4)
            refine lv_astore (lv' := [(4, .ref (ad_48 (100 + 5 * n))), (0, .ref (ad 0)), (1, .int (nI y)), (2, .int (nI f)), (3, .int (nI g))]) hx hb dX9_put_89 hl (by decide) rfl (fun ls hl => ?_)
            refine lv_aload_n hx hb dX9_put_91 rfl (lv_at hl 1 rfl) ?_
            refine n_eqv (show Value.ref (ad 0) = .ref (ad_48 0) from by rw [hAd_60 0 (by omega) (by omega) (by omega) (by omega), hAd_22 0 (by omega)]) ?_
            refine h_get (C := RX9) (T := TX9) (N := 10) hx hb hts i_RX9 hown hI hm_85 rfl 3 (by decide) f_33 rfl rfl dX9_put_92 ?_
            refine k_Nv (va_runV (As := []) (rest := []) ⟨hx, hb, hml, hown, hts⟩ (c_X0_clear l G z ad_48 M_80 (sz := s0) hm_86) (cwV 0 hts (gV (lwg_of t_682 rfl) (lwg_of t_683 rfl) (lwg_of t_684 rfl) (lwg_of t_5 rfl) (lwg_of t_685 rfl)) rfl rfl rfl (by decide +kernel) ⟨Nat.le_of_ble_eq_true rfl, Nat.le_of_ble_eq_true rfl⟩) (hI.preV hm_86 rfl) rfl rfl hl.1 rfl (lv_room (Nat.le_of_ble_eq_true rfl)) dX9_put_95 ⟨Nat.le_of_ble_eq_true rfl, Nat.le_of_ble_eq_true rfl⟩) hI (fun M_106 H_107 locs_108 hp_105 hI => ?_)
            obtain ⟨hm_109, hF_110⟩ := hp_105
            have hm_111 : M_106 0 = some (cStore ad_48 qa qs fw) := by rw [hF_110 0 (by omega)]; exact hm_85
            have hm_112 : M_106 13 = some (aI G 6 (nF r0)) := by rw [hF_110 13 (by omega)]; exact hm_87
            have hm_113 : M_106 14 = some (aI G 6 (oF th)) := by rw [hF_110 14 (by omega)]; exact hm_88
            have hm_114 : M_106 15 = some (aI G 6 (oF ol)) := by rw [hF_110 15 (by omega)]; exact hm_89
            have hm_115 : M_106 16 = some (cLines ad_48 ) := by rw [hF_110 16 (by omega)]; exact hm_90
            have hm_116 : M_106 3 = some (cLaws ad_48 ) := by rw [hF_110 3 (by omega)]; exact hm_91
            have hm_117 : M_106 4 = some (aI G 36 (nF le)) := by rw [hF_110 4 (by omega)]; exact hm_92
            have hm_118 : M_106 5 = some (aI G 36 (nF mo)) := by rw [hF_110 5 (by omega)]; exact hm_93
            have hm_119 : M_106 6 = some (aI G 36 (nF al)) := by rw [hF_110 6 (by omega)]; exact hm_94
            have hm_120 : M_106 8 = some (cOnes ad_48 jn) := by rw [hF_110 8 (by omega)]; exact hm_95
            have hm_121 : M_106 10 = some (aI G 40 (nF lst)) := by rw [hF_110 10 (by omega)]; exact hm_96
            have hm_122 : M_106 20 = some (aI G 120 ff) := by rw [hF_110 20 (by omega)]; exact hm_97
            have hm_123 : M_106 21 = some (aI G 120 lq) := by rw [hF_110 21 (by omega)]; exact hm_98
            have hm_124 : M_106 (100 + 5 * n) = some (cLine ad_48 (100 + 5 * n) y (nI f) (nI g)) := by rw [hF_110 (100 + 5 * n) (by omega)]; exact hm_83
            have hm_125 : M_106 (100 + 5 * n + 1) = some (cEnds ad_48 (100 + 5 * n + 1) s0) := by rw [hF_110 (100 + 5 * n + 1) (by omega)]; exact hm_99
            have hm_126 : M_106 (100 + 5 * n + 2) = some (aI G 6 (nF (frs s0 r0))) := by rw [hF_110 (100 + 5 * n + 2) (by omega)]; exact hm_100
            have hm_127 : M_106 (100 + 5 * n + 3) = some (aI G 6 (oF (thE (frsE s0 e0)))) := by rw [hF_110 (100 + 5 * n + 3) (by omega)]; exact hm_101
            have hm_128 : M_106 (100 + 5 * n + 4) = some (aI G 6 (oF (olE (frsE s0 e0)))) := by rw [hF_110 (100 + 5 * n + 4) (by omega)]; exact hm_102
            have hF_129 : ∀ j : Nat, j ≠ (100 + 5 * n) → j ≠ (100 + 5 * n + 1) → j ≠ (100 + 5 * n + 2) → j ≠ (100 + 5 * n + 3) → j ≠ (100 + 5 * n + 4) → j ≠ 12 → M_106 j = M j := fun j q0 q1 q2 q3 q4 q5 => (hF_110 j q5).trans (hF_103 j q0 q1 q2 q3 q4)
            have hL9 : LSm G ad_48 M_106 n kd fm to sz rl en := hL.mv (fun j hj => hF_129 j (by omega) (by omega) (by omega) (by omega) (by omega) (by omega)) (fun j hj => by rw [hAd_60 j (by omega) (by omega) (by omega) (by omega), hAd_22 j (by omega)])
            refine lv_aload_n hx hb dX9_put_98 rfl (lv_at hl 1 rfl) ?_
            refine n_eqv (show Value.ref (ad 0) = .ref (ad_48 0) from by rw [hAd_60 0 (by omega) (by omega) (by omega) (by omega), hAd_22 0 (by omega)]) ?_
            refine lv_aload hx hb dX9_put_99 (lv_at hl 0 rfl) ?_
            refine k_Ni (va_runV (As := [.ref (ad_48 (100 + 5 * n))]) (rest := []) ⟨hx, hb, hml, hown, hts⟩ (c_X9_whyRefused l G z ad_48 M_106 (n := n) (kd := kd) (fm := fm) (to := to) (sz := sz) (rl := rl) (en := en) (qa := qa) (qs := qs) (fw := fw) (k := 100 + 5 * n) (q := y) (f0 := (nI f)) (t0 := (nI g)) (s0 := s0) (r0 := frs s0 r0) (e0 := frsE s0 e0) (jn := jn) (lst := lst) (le := le) (mo := mo) (al := al) (ff := ff) (lf := lq) hL9 hm_111 hm_124 hm_125 hm_126 hm_127 hm_128 hm_116 hm_117 hm_118 hm_119 hm_120 hm_121 hm_122 hm_123 hw hs0 (fun j hj => by rw [frs_is hj]; exact hr0 j hj) (fun j hj => by rw [frsE_is hj]; exact he0 j hj) hlst hy (by omega) hle hmo hal) (cwV 1 hts (gV (lwg_of t_686 rfl) (lwg_of t_688 rfl) (lwg_of ts_8 rfl) (lwg_of t_1 rfl) (lwg_of t_689 rfl)) rfl rfl rfl (by decide +kernel) ⟨Nat.le_of_ble_eq_true rfl, Nat.le_of_ble_eq_true rfl⟩) (hI.preV hm_111 rfl) rfl rfl hl.1 rfl (lv_room (Nat.le_of_ble_eq_true rfl)) dX9_put_101 ⟨Nat.le_of_ble_eq_true rfl, Nat.le_of_ble_eq_true rfl⟩) hI (fun r_130 M_132 H_133 locs_134 hp_131 hI => ?_)
            obtain ⟨ff2_139, lf2_140, hm_135, hm_136, hF_137, hP_138⟩ := hp_131
            have hm_141 : M_132 0 = some (cStore ad_48 qa qs fw) := by rw [hF_137 0 (by omega) (by omega)]; exact hm_111
            have hm_142 : M_132 12 = some (cEnds ad_48 12 0) := by rw [hF_137 12 (by omega) (by omega)]; exact hm_109
            have hm_143 : M_132 13 = some (aI G 6 (nF r0)) := by rw [hF_137 13 (by omega) (by omega)]; exact hm_112
            have hm_144 : M_132 14 = some (aI G 6 (oF th)) := by rw [hF_137 14 (by omega) (by omega)]; exact hm_113
            have hm_145 : M_132 15 = some (aI G 6 (oF ol)) := by rw [hF_137 15 (by omega) (by omega)]; exact hm_114
            have hm_146 : M_132 16 = some (cLines ad_48 ) := by rw [hF_137 16 (by omega) (by omega)]; exact hm_115
            have hm_147 : M_132 3 = some (cLaws ad_48 ) := by rw [hF_137 3 (by omega) (by omega)]; exact hm_116
            have hm_148 : M_132 4 = some (aI G 36 (nF le)) := by rw [hF_137 4 (by omega) (by omega)]; exact hm_117
            have hm_149 : M_132 5 = some (aI G 36 (nF mo)) := by rw [hF_137 5 (by omega) (by omega)]; exact hm_118
            have hm_150 : M_132 6 = some (aI G 36 (nF al)) := by rw [hF_137 6 (by omega) (by omega)]; exact hm_119
            have hm_151 : M_132 8 = some (cOnes ad_48 jn) := by rw [hF_137 8 (by omega) (by omega)]; exact hm_120
            have hm_152 : M_132 10 = some (aI G 40 (nF lst)) := by rw [hF_137 10 (by omega) (by omega)]; exact hm_121
            have hm_153 : M_132 (100 + 5 * n) = some (cLine ad_48 (100 + 5 * n) y (nI f) (nI g)) := by rw [hF_137 (100 + 5 * n) (by omega) (by omega)]; exact hm_124
            have hm_154 : M_132 (100 + 5 * n + 1) = some (cEnds ad_48 (100 + 5 * n + 1) s0) := by rw [hF_137 (100 + 5 * n + 1) (by omega) (by omega)]; exact hm_125
            have hm_155 : M_132 (100 + 5 * n + 2) = some (aI G 6 (nF (frs s0 r0))) := by rw [hF_137 (100 + 5 * n + 2) (by omega) (by omega)]; exact hm_126
            have hm_156 : M_132 (100 + 5 * n + 3) = some (aI G 6 (oF (thE (frsE s0 e0)))) := by rw [hF_137 (100 + 5 * n + 3) (by omega) (by omega)]; exact hm_127
            have hm_157 : M_132 (100 + 5 * n + 4) = some (aI G 6 (oF (olE (frsE s0 e0)))) := by rw [hF_137 (100 + 5 * n + 4) (by omega) (by omega)]; exact hm_128
            have hL_158 : LSm G ad_48 M_132 n kd fm to sz rl en := hL9.keep (fun j hj => hF_137 j (by omega) (by omega))
            have hF_159 : ∀ j : Nat, j ≠ (100 + 5 * n) → j ≠ (100 + 5 * n + 1) → j ≠ (100 + 5 * n + 2) → j ≠ (100 + 5 * n + 3) → j ≠ (100 + 5 * n + 4) → j ≠ 12 → j ≠ 20 → j ≠ 21 → M_132 j = M j := fun j q0 q1 q2 q3 q4 q5 q6 q7 => (hF_137 j q6 q7).trans (hF_129 j q0 q1 q2 q3 q4 q5)
            have hP9 := hP_138
            rw [alw_cg (r0 := frs s0 r0) (r1 := r0) (fun j hj => frs_is hj), brs_cg (e0 := frsE s0 e0) (e1 := e0) (fun j hj => frsE_is hj), crw_cg (r0 := frs s0 r0) (r1 := r0) (e0 := frsE s0 e0) (e1 := e0) (fun j hj => frs_is hj) (fun j hj => frsE_is hj)] at hP9
            have hr9 : r_130 = nI w := by
              rcases hP9 with h | h | h | h <;> rcases hwhy with k | k | k <;> first | (rw [k.1]; exact h.1) | exact absurd k.2.1 h.2 | exact absurd h.2.1 k.2 | exact absurd k.2.2.1 h.2.2 | exact absurd h.2.2.1 k.2.2 | exact absurd k.2.2.2 h.2.2.2
            refine n_eq hr9 ?_
            refine lv_istore (lv' := [(5, .int (nI w)), (4, .ref (ad_48 (100 + 5 * n))), (0, .ref (ad 0)), (1, .int (nI y)), (2, .int (nI f)), (3, .int (nI g))]) hx hb dX9_put_104 hl (by decide) rfl (fun ls hl => ?_)
            refine lv_iload hx hb dX9_put_106 (lv_at hl 0 rfl) ?_
            refine lv_if_ne (tgt := 123) hx hb dX9_put_108 (by decide) (fun c_160 => ?_) (fun c_160 => ?_)
            · -- 108: nI w ne
              have c_160 : w ≠ 0 := by have h := mt (nI_eq (a := w) (b := 0) (by omega) (by omega)).mpr c_160; omega
              refine lv_iload hx hb dX9_put_123 (lv_at hl 0 rfl) ?_
              refine lv_ineg hx hb dX9_put_125 ?_
              exact e_Ai hx hb hr rfl hlocks hI ⟨ff2_139, lf2_140, rfl, hm_142, hm_135, hm_136, hm_153, hm_154, hm_155, hm_156, hm_157, (fun j q0 q1 q2 q3 q4 q5 q6 q7 => hF_159 j q3 q4 q5 q6 q7 q0 q1 q2), (fun j q0 q1 q2 q3 q4 => (by show ad_48 j = ad j; rw [hAd_60 j q1 q2 q3 q4, hAd_22 j q0]))⟩ dX9_put_126
            · -- 108: nI w eq
              have c_160 : w = 0 := (nI_eq (a := w) (b := 0) (by omega) (by omega)).mp (c_160)
              omega
          · -- 59: nI n ge
            have c_15 : 120 ≤ n := by have h := mt (nI_ltI (a := n) (b := 120) (by omega) (by omega)).mpr c_15; omega
            omega
        · -- 37: nI s0 eq
          have c_12 : s0 = 0 := (nI_eq (a := s0) (b := 0) (by omega) (by omega)).mp (c_12)
          omega
      · -- 17: nI g gt
        have c_9 : 1000 < g := by have h := mt (nI_leI (a := g) (b := 1000) (by omega) (by omega)).mpr c_9; omega
        omega

/-- X9_put -/
abbrev rm_c_X9_putk_0 : Room := { frames := 6, cells := 6, slots := 226, locals := 139 }
set_option maxHeartbeats 4000000 in
set_option maxRecDepth 100000 in
theorem c_X9_putk_0 (l : Launch) (G : GG) (z : Nat) (ad : Nat → Nat) (M : Mem) {kd : Nat → Nat} {fm : Nat → Int32} {to : Nat → Int32} {sz : Nat → Nat} {rl : Nat → Nat → Nat} {en : Nat → Nat → Nat} {qa : Nat} {qs : Nat} {fw : Int32} {s0 : Nat} {r0 : Nat → Nat} {th : Nat → Option Nat} {ol : Nat → Option Nat} {e0 : Nat → Nat} {le : Nat → Nat} {mo : Nat → Nat} {al : Nat → Nat} {jn : Nat} {lst : Nat → Nat} {ff : Nat → Int32} {lq : Nat → Int32} {y : Nat} {f : Nat} {g : Nat} {mcn : Int32} (h0 : M 0 = some (cStore ad qa qs fw)) (h12 : M 12 = some (cEnds ad 12 s0)) (h13 : M 13 = some (aI G 6 (nF r0))) (h14 : M 14 = some (aI G 6 (oF th))) (h15 : M 15 = some (aI G 6 (oF ol))) (h16 : M 16 = some (cLines ad )) (h3 : M 3 = some (cLaws ad )) (h4 : M 4 = some (aI G 36 (nF le))) (h5 : M 5 = some (aI G 36 (nF mo))) (h6 : M 6 = some (aI G 36 (nF al))) (h8 : M 8 = some (cOnes ad jn)) (h10 : M 10 = some (aI G 40 (nF lst))) (h20 : M 20 = some (aI G 120 ff)) (h21 : M 21 = some (aI G 120 lq)) (h17 : M 17 = some (cList ad mcn G.2.2.2.2 0)) (hqa : 29 < qa ∧ qa < 51) (hqs : 29 < qs ∧ qs < 51) (hL : LSm G ad M 0 kd fm to sz rl en) (hw : LSw 0 kd sz rl en) (hs1 : 0 < s0) (hs0 : s0 ≤ 6) (hn1 : 0 < 120) (hr0 : ∀ j, j < s0 → r0 j < 6) (he0 : ∀ j, j < s0 → e0 j < 40 + 0) (hth : ∀ j, j < s0 → th j = thE e0 j) (hol : ∀ j, j < s0 → ol j = olE e0 j) (hlst : ∀ u, u < 40 → lst u < 40) (hy : y < 6) (hfg : f ≤ g ∧ g ≤ 1000) (hle : ∀ j, j < 36 → le j < 100) (hmo : ∀ j, j < 36 → mo j < 100) (hal : ∀ j, j < 36 → al j ≤ 100) (hok : alw le mo r0 s0 y 6 ∧ brs fm to e0 (nI f) (nI g) s0 ∧ ¬ crw 0 kd fm to sz rl en lst al y (nI f) (nI g) r0 e0 s0) (fre0 : M 100 = none) (fre1 : M 101 = none) (fre2 : M 102 = none) (fre3 : M 103 = none) (fre4 : M 104 = none) (fre5 : M 18 = none) : Met l yX9_put wsX9_put rm_c_X9_putk_0 (Pr G z ad M [.ref (ad 0), .int (nI y), .int (nI f), .int (nI g)]) (Ai G z (fun (r : Int32) (u : (Nat → Nat) × Mem) => ∃ ff2 : Nat → Int32, ∃ lq2 : Nat → Int32, r = nI 0 ∧ u.2 12 = some (cEnds u.1 12 0) ∧ u.2 20 = some (aI G 120 ff2) ∧ u.2 21 = some (aI G 120 lq2) ∧ u.2 100 = some (cLine u.1 100 y (nI f) (nI g)) ∧ u.2 101 = some (cEnds u.1 101 s0) ∧ u.2 102 = some (aI G 6 (nF (frs s0 r0))) ∧ u.2 103 = some (aI G 6 (oF (thE (frsE s0 e0)))) ∧ u.2 104 = some (aI G 6 (oF (olE (frsE s0 e0)))) ∧ u.2 17 = some (cList u.1 (mcn + nI 1) (u.1 18) 1) ∧ u.2 18 = some (aO G 10 (va_up (fun _ => none) 0 (some (u.1 100)))) ∧ (∀ j : Nat, j ≠ 12 → j ≠ 20 → j ≠ 21 → j ≠ 100 → j ≠ 101 → j ≠ 102 → j ≠ 103 → j ≠ 104 → j ≠ 17 → j ≠ 18 → u.2 j = M j) ∧ (∀ j : Nat, j ≠ 100 → j ≠ 101 → j ≠ 102 → j ≠ 103 → j ≠ 104 → j ≠ 18 → u.1 j = ad j))) 6 226 (fr z) := by
  refine Met.ofW (cc := cX9_put) (maxL := 6) (ret := (some .int)) (by decide) rfl ?_
  intro p e s m args below meth c s₁ B hml hv
  obtain ⟨rfl, hv⟩ := hv
  have hI := Iv.entry hv
  have hx := B.exec
  have hb := B.bytes
  have hr := B.returns
  have hts := atoms_spec (ws := wsX9_put) B.pre
  have hown : s.vm.findClass RX9 = some m.cls := findClass_of_methodNamed B.named
  have hlocks := B.notSynchronized
  have i_RX9 : ∀ w ∈ u_ws RX9 TX9 10, w ∈ wsX9_put := fun w h => List.mem_cons_of_mem _ (iu_X9 w h)
  have f_33 := hts _ (List.mem_cons_of_mem _ (lwg_of t_242 rfl))
  have f_40 := hts _ (List.mem_cons_of_mem _ (lwg_of t_243 rfl))
  have nw_i136 := hts _ (List.mem_cons_of_mem _ (lwg_of t_643 rfl))
  have nw_n136 := hts _ (List.mem_cons_of_mem _ (lwg_of t_21 rfl))
  have i_RX2 : ∀ w ∈ u_ws RX2 TX2 4, w ∈ wsX9_put := fun w h => List.mem_cons_of_mem _ (iu_X2 w h)
  have nw_c136 := hts _ (List.mem_cons_of_mem _ (lwg_of t_642 rfl))
  have sp_142 := hts _ (List.mem_cons_of_mem _ (lwg_of t_21 rfl))
  have in_142 := hts _ (List.mem_cons_of_mem _ (lwg_of t_654 rfl))
  have ml_142 := hts _ (List.mem_cons_of_mem _ (lwg_of t_653 rfl))
  have hl := lv_entry ([.ref (ad 0), .int (nI y), .int (nI f), .int (nI g)]) (n := 6) (Nat.le_of_ble_eq_true rfl)
  rw [lg_entry_eq]
  generalize (lg_sl ([.ref (ad 0), .int (nI y), .int (nI f), .int (nI g)]) ++ List.replicate (6 - (lg_sl ([.ref (ad 0), .int (nI y), .int (nI f), .int (nI g)])).length) Slot.unset).toArray = ls at hl ⊢
  have hl : lv_has ls 6 [(0, .ref (ad 0)), (1, .int (nI y)), (2, .int (nI f)), (3, .int (nI g))] := hl
  have hw1 := hw.1
  refine lv_iload_n hx hb dX9_put_0 rfl (lv_at hl 1 rfl) ?_
  refine k_Nv (va_runS (As := [.int (nI y)]) (rest := []) ⟨hx, hb, hml, hown, hts⟩ (c_X9_checkKind l G z ad M (t := y) hy) (va_cwS 1 hts (gS (lwg_of t_477 rfl) (lwg_of t_478 rfl) (lwg_of t_1 rfl) (lwg_of t_479 rfl)) rfl rfl rfl (by decide +kernel) ⟨Nat.le_of_ble_eq_true rfl, Nat.le_of_ble_eq_true rfl⟩) hI.preS rfl rfl hl.1 rfl (lv_room (Nat.le_of_ble_eq_true rfl)) dX9_put_1 ⟨Nat.le_of_ble_eq_true rfl, Nat.le_of_ble_eq_true rfl⟩) hI (fun M_3 H_4 locs_5 hp_2 hI => ?_)
  have eM_6 : M = M_3 := (funext hp_2).symm
  subst eM_6
  refine lv_iload_n hx hb dX9_put_4 rfl (lv_at hl 2 rfl) ?_
  refine lv_if_lt (tgt := 20) hx hb dX9_put_5 (by decide) (fun c_7 => ?_) (fun c_7 => ?_)
  · -- 5: nI f lt
    have c_7 : f < 0 := (nI_ltI (a := f) (b := 0) (by omega) (by omega)).mp (c_7)
    omega
  · -- 5: nI f ge
    have c_7 : 0 ≤ f := by have h := mt (nI_ltI (a := f) (b := 0) (by omega) (by omega)).mpr c_7; omega
    refine lv_iload_n hx hb dX9_put_8 rfl (lv_at hl 2 rfl) ?_
    refine lv_iload_n hx hb dX9_put_9 rfl (lv_at hl 3 rfl) ?_
    refine lv_icmp_gt (tgt := 20) hx hb dX9_put_10 (by decide) (fun c_8 => ?_) (fun c_8 => ?_)
    · -- 10: nI f gt
      have c_8 : g < f := (nI_ltI (a := g) (b := f) (by omega) (by omega)).mp (c_8)
      omega
    · -- 10: nI f le
      have c_8 : f ≤ g := by have h := mt (nI_ltI (a := g) (b := f) (by omega) (by omega)).mpr c_8; omega
      refine lv_iload_n hx hb dX9_put_13 rfl (lv_at hl 3 rfl) ?_
      refine lv_sipush (v := nI 1000) hx hb dX9_put_14 (by decide) ?_
      refine lv_icmp_le (tgt := 30) hx hb dX9_put_17 (by decide) (fun c_9 => ?_) (fun c_9 => ?_)
      · -- 17: nI g le
        have c_9 : g ≤ 1000 := (nI_leI (a := g) (b := 1000) (by omega) (by omega)).mp (c_9)
        refine lv_aload_n hx hb dX9_put_30 rfl (lv_at hl 0 rfl) ?_
        refine h_get (C := RX9) (T := TX9) (N := 10) hx hb hts i_RX9 hown hI h0 rfl 3 (by decide) f_33 rfl rfl dX9_put_31 ?_
        refine k_Ri (va_runV (As := []) (rest := []) ⟨hx, hb, hml, hown, hts⟩ (c_X0_size l G z ad M (k := 12) (sz := s0) h12) (cwV 0 hts (gV (lwg_of t_450 rfl) (lwg_of t_451 rfl) (lwg_of t_452 rfl) (lwg_of t_5 rfl) (lwg_of t_453 rfl)) rfl rfl rfl (by decide +kernel) ⟨Nat.le_of_ble_eq_true rfl, Nat.le_of_ble_eq_true rfl⟩) (hI.preV h12 rfl) rfl rfl hl.1 rfl (lv_room (Nat.le_of_ble_eq_true rfl)) dX9_put_34 ⟨Nat.le_of_ble_eq_true rfl, Nat.le_of_ble_eq_true rfl⟩) (fun _ h => h) (fun r_10 hp_11 => ?_)
        rw [hp_11]
        refine lv_if_ne (tgt := 50) hx hb dX9_put_37 (by decide) (fun c_12 => ?_) (fun c_12 => ?_)
        · -- 37: nI s0 ne
          have c_12 : s0 ≠ 0 := by have h := mt (nI_eq (a := s0) (b := 0) (by omega) (by omega)).mpr c_12; omega
          refine lv_aload_n hx hb dX9_put_50 rfl (lv_at hl 0 rfl) ?_
          refine h_get (C := RX9) (T := TX9) (N := 10) hx hb hts i_RX9 hown hI h0 rfl 4 (by decide) f_40 rfl rfl dX9_put_51 ?_
          refine k_Ri (va_runV (As := []) (rest := []) ⟨hx, hb, hml, hown, hts⟩ (c_X3_size l G z ad M (n := 0) (kd := kd) (fm := fm) (to := to) (sz := sz) (rl := rl) (en := en) hL) (cwV 0 hts (gV (lwg_of t_449 rfl) (lwg_of t_325 rfl) (lwg_of t_326 rfl) (lwg_of t_6 rfl) (lwg_of t_327 rfl)) rfl rfl rfl (by decide +kernel) ⟨Nat.le_of_ble_eq_true rfl, Nat.le_of_ble_eq_true rfl⟩) (hI.preV h16 rfl) rfl rfl hl.1 rfl (lv_room (Nat.le_of_ble_eq_true rfl)) dX9_put_54 ⟨Nat.le_of_ble_eq_true rfl, Nat.le_of_ble_eq_true rfl⟩) (fun _ h => h) (fun r_13 hp_14 => ?_)
          rw [hp_14]
          refine lv_bipush (v := nI 120) hx hb dX9_put_57 (by decide) ?_
          refine lv_icmp_lt (tgt := 72) hx hb dX9_put_59 (by decide) (fun c_15 => ?_) (fun c_15 => ?_)
          · -- 59: nI 0 lt
            refine h_new (C := RX2) (T := TX2) (N := 4) (ci := 3) (fs := [.int (nI 0), .int (nI 0), .int (nI 0), .null]) hx hb hts i_RX2 tyX2 tyX2_ok hown nw_c136 nw_i136 nw_n136 hI rfl (fun j hj => match j, hj with | 0, _ => rfl | 1, _ => rfl | 2, _ => rfl | 3, _ => rfl | n + 4, h => absurd h (by omega)) (Nat.le_of_ble_eq_true rfl) (Nat.le_of_ble_eq_true rfl) dX9_put_72 100 fre0 (fun ad_16 M_17 H_18 hA_19 eM_20 hI => ?_)
            have hAd_22 : ∀ j : Nat, j ≠ 100 → ad_16 j = ad j := fun j hj => by obtain ⟨q, e⟩ := hA_19; rw [e]; exact va_up_ne _ _ hj
            have hm_23 : M_17 100 = some (.inr (3, [.int (nI 0), .int (nI 0), .int (nI 0), .null])) := by rw [eM_20]; exact va_up_self _ _ _
            have hm_24 : M_17 0 = some (cStore ad_16 qa qs fw) := by rw [eM_20, va_up_ne _ _ (by decide), h0]; simp only [cStore, hAd_22 1 (by decide), hAd_22 3 (by decide), hAd_22 8 (by decide), hAd_22 12 (by decide), hAd_22 16 (by decide), hAd_22 22 (by decide), hAd_22 23 (by decide), hAd_22 qa (by omega), hAd_22 qs (by omega)]
            have hm_25 : M_17 12 = some (cEnds ad_16 12 s0) := by rw [eM_20, va_up_ne _ _ (by decide), h12]; simp only [cEnds, hAd_22 13 (by decide), hAd_22 14 (by decide), hAd_22 15 (by decide)]
            have hm_26 : M_17 13 = some (aI G 6 (nF r0)) := by rw [eM_20, va_up_ne _ _ (by decide), h13]
            have hm_27 : M_17 14 = some (aI G 6 (oF th)) := by rw [eM_20, va_up_ne _ _ (by decide), h14]
            have hm_28 : M_17 15 = some (aI G 6 (oF ol)) := by rw [eM_20, va_up_ne _ _ (by decide), h15]
            have hm_29 : M_17 16 = some (cLines ad_16 ) := by rw [eM_20, va_up_ne _ _ (by decide), h16]; simp only [cLines, hAd_22 17 (by decide), hAd_22 19 (by decide), hAd_22 20 (by decide), hAd_22 21 (by decide)]
            have hm_30 : M_17 3 = some (cLaws ad_16 ) := by rw [eM_20, va_up_ne _ _ (by decide), h3]; simp only [cLaws, hAd_22 4 (by decide), hAd_22 5 (by decide), hAd_22 6 (by decide), hAd_22 7 (by decide)]
            have hm_31 : M_17 4 = some (aI G 36 (nF le)) := by rw [eM_20, va_up_ne _ _ (by decide), h4]
            have hm_32 : M_17 5 = some (aI G 36 (nF mo)) := by rw [eM_20, va_up_ne _ _ (by decide), h5]
            have hm_33 : M_17 6 = some (aI G 36 (nF al)) := by rw [eM_20, va_up_ne _ _ (by decide), h6]
            have hm_34 : M_17 8 = some (cOnes ad_16 jn) := by rw [eM_20, va_up_ne _ _ (by decide), h8]; simp only [cOnes, hAd_22 9 (by decide), hAd_22 10 (by decide), hAd_22 11 (by decide)]
            have hm_35 : M_17 10 = some (aI G 40 (nF lst)) := by rw [eM_20, va_up_ne _ _ (by decide), h10]
            have hm_36 : M_17 20 = some (aI G 120 ff) := by rw [eM_20, va_up_ne _ _ (by decide), h20]
            have hm_37 : M_17 21 = some (aI G 120 lq) := by rw [eM_20, va_up_ne _ _ (by decide), h21]
            have hm_38 : M_17 17 = some (cList ad_16 mcn G.2.2.2.2 0) := by rw [eM_20, va_up_ne _ _ (by decide), h17]
            have fr_39 : M_17 101 = none := by rw [eM_20, va_up_ne _ _ (by decide)]; exact fre1
            have fr_40 : M_17 102 = none := by rw [eM_20, va_up_ne _ _ (by decide)]; exact fre2
            have fr_41 : M_17 103 = none := by rw [eM_20, va_up_ne _ _ (by decide)]; exact fre3
            have fr_42 : M_17 104 = none := by rw [eM_20, va_up_ne _ _ (by decide)]; exact fre4
            have fr_43 : M_17 18 = none := by rw [eM_20, va_up_ne _ _ (by decide)]; exact fre5
            have hF_44 : ∀ j : Nat, j ≠ 100 → M_17 j = M j := fun j q0 => by rw [eM_20, va_up_ne _ _ q0]
            refine lv_dup hx hb dX9_put_75 rfl ?_
            refine lv_iload_n hx hb dX9_put_76 rfl (lv_at hl 1 rfl) ?_
            refine lv_iload_n hx hb dX9_put_77 rfl (lv_at hl 2 rfl) ?_
            refine lv_iload_n hx hb dX9_put_78 rfl (lv_at hl 3 rfl) ?_
            refine lv_aload_n hx hb dX9_put_79 rfl (lv_at hl 0 rfl) ?_
            refine n_eqv (show Value.ref (ad 0) = .ref (ad_16 0) from by rw [hAd_22 0 (by decide)]) ?_
            refine h_get (C := RX9) (T := TX9) (N := 10) hx hb hts i_RX9 hown hI hm_24 rfl 3 (by decide) f_33 rfl rfl dX9_put_80 ?_
            refine k_Aq (va_runV (As := []) (rest := [.int (nI g), .int (nI f), .int (nI y), .ref (ad_16 100), .ref (ad_16 100)]) ⟨hx, hb, hml, hown, hts⟩ (c_X0_copy l G z ad_16 M_17 (k := 101) (sz := s0) (rl := r0) (th := th) (ol := ol) (e0 := e0) hm_25 hm_26 hm_27 hm_28 hs0 (by omega) hth hol fr_39 fr_40 fr_41 fr_42) (cwV 0 hts (gV (lwg_of t_644 rfl) (lwg_of t_645 rfl) (lwg_of t_646 rfl) (lwg_of t_5 rfl) (lwg_of t_647 rfl)) rfl rfl rfl (by decide +kernel) ⟨Nat.le_of_ble_eq_true rfl, Nat.le_of_ble_eq_true rfl⟩) (hI.preV hm_25 rfl) rfl rfl hl.1 rfl (lv_room (Nat.le_of_ble_eq_true rfl)) dX9_put_83 ⟨Nat.le_of_ble_eq_true rfl, Nat.le_of_ble_eq_true rfl⟩) hI (fun r_45 ad_50 M_47 H_48 locs_49 hp_46 hI => ?_)
            obtain ⟨hr_51, hm_52, hm_53, hm_54, hm_55, hF_56, hAd_57⟩ := hp_46
            have hm_58 : M_47 101 = some (cEnds ad_50 101 s0) := hm_52
            have hm_59 : M_47 102 = some (aI G 6 (nF (frs s0 r0))) := hm_53
            have hm_60 : M_47 103 = some (aI G 6 (oF (thE (frsE s0 e0)))) := hm_54
            have hm_61 : M_47 104 = some (aI G 6 (oF (olE (frsE s0 e0)))) := hm_55
            have hAd_62 : ∀ j : Nat, j ≠ 101 → j ≠ 102 → j ≠ 103 → j ≠ 104 → ad_50 j = ad_16 j := hAd_57
            have hF_63 : ∀ j : Nat, j ≠ 101 → j ≠ 102 → j ≠ 103 → j ≠ 104 → M_47 j = M_17 j := hF_56
            have hm_64 : M_47 0 = some (cStore ad_50 qa qs fw) := by rw [hF_63 0 (by decide) (by decide) (by decide) (by decide), hm_24]; simp only [cStore, hAd_62 1 (by decide) (by decide) (by decide) (by decide), hAd_62 3 (by decide) (by decide) (by decide) (by decide), hAd_62 8 (by decide) (by decide) (by decide) (by decide), hAd_62 12 (by decide) (by decide) (by decide) (by decide), hAd_62 16 (by decide) (by decide) (by decide) (by decide), hAd_62 22 (by decide) (by decide) (by decide) (by decide), hAd_62 23 (by decide) (by decide) (by decide) (by decide), hAd_62 qa (by omega) (by omega) (by omega) (by omega), hAd_62 qs (by omega) (by omega) (by omega) (by omega)]
            have hm_65 : M_47 12 = some (cEnds ad_50 12 s0) := by rw [hF_63 12 (by decide) (by decide) (by decide) (by decide), hm_25]; simp only [cEnds, hAd_62 13 (by decide) (by decide) (by decide) (by decide), hAd_62 14 (by decide) (by decide) (by decide) (by decide), hAd_62 15 (by decide) (by decide) (by decide) (by decide)]
            have hm_66 : M_47 13 = some (aI G 6 (nF r0)) := by rw [hF_63 13 (by decide) (by decide) (by decide) (by decide), hm_26]
            have hm_67 : M_47 14 = some (aI G 6 (oF th)) := by rw [hF_63 14 (by decide) (by decide) (by decide) (by decide), hm_27]
            have hm_68 : M_47 15 = some (aI G 6 (oF ol)) := by rw [hF_63 15 (by decide) (by decide) (by decide) (by decide), hm_28]
            have hm_69 : M_47 16 = some (cLines ad_50 ) := by rw [hF_63 16 (by decide) (by decide) (by decide) (by decide), hm_29]; simp only [cLines, hAd_62 17 (by decide) (by decide) (by decide) (by decide), hAd_62 19 (by decide) (by decide) (by decide) (by decide), hAd_62 20 (by decide) (by decide) (by decide) (by decide), hAd_62 21 (by decide) (by decide) (by decide) (by decide)]
            have hm_70 : M_47 3 = some (cLaws ad_50 ) := by rw [hF_63 3 (by decide) (by decide) (by decide) (by decide), hm_30]; simp only [cLaws, hAd_62 4 (by decide) (by decide) (by decide) (by decide), hAd_62 5 (by decide) (by decide) (by decide) (by decide), hAd_62 6 (by decide) (by decide) (by decide) (by decide), hAd_62 7 (by decide) (by decide) (by decide) (by decide)]
            have hm_71 : M_47 4 = some (aI G 36 (nF le)) := by rw [hF_63 4 (by decide) (by decide) (by decide) (by decide), hm_31]
            have hm_72 : M_47 5 = some (aI G 36 (nF mo)) := by rw [hF_63 5 (by decide) (by decide) (by decide) (by decide), hm_32]
            have hm_73 : M_47 6 = some (aI G 36 (nF al)) := by rw [hF_63 6 (by decide) (by decide) (by decide) (by decide), hm_33]
            have hm_74 : M_47 8 = some (cOnes ad_50 jn) := by rw [hF_63 8 (by decide) (by decide) (by decide) (by decide), hm_34]; simp only [cOnes, hAd_62 9 (by decide) (by decide) (by decide) (by decide), hAd_62 10 (by decide) (by decide) (by decide) (by decide), hAd_62 11 (by decide) (by decide) (by decide) (by decide)]
            have hm_75 : M_47 10 = some (aI G 40 (nF lst)) := by rw [hF_63 10 (by decide) (by decide) (by decide) (by decide), hm_35]
            have hm_76 : M_47 20 = some (aI G 120 ff) := by rw [hF_63 20 (by decide) (by decide) (by decide) (by decide), hm_36]
            have hm_77 : M_47 21 = some (aI G 120 lq) := by rw [hF_63 21 (by decide) (by decide) (by decide) (by decide), hm_37]
            have hm_78 : M_47 17 = some (cList ad_50 mcn G.2.2.2.2 0) := by rw [hF_63 17 (by decide) (by decide) (by decide) (by decide), hm_38]
            have hm_79 : M_47 100 = some (.inr (3, [.int (nI 0), .int (nI 0), .int (nI 0), .null])) := by rw [hF_63 100 (by decide) (by decide) (by decide) (by decide), hm_23]
            have fr_80 : M_47 18 = none := by rw [hF_63 18 (by decide) (by decide) (by decide) (by decide)]; exact fr_43
            clear hm_24 hm_25 hm_26 hm_27 hm_28 hm_29 hm_30 hm_31 hm_32 hm_33 hm_34 hm_35 hm_36 hm_37 hm_38 hm_23 fr_43
            have hF_81 : ∀ j : Nat, j ≠ 100 → j ≠ 101 → j ≠ 102 → j ≠ 103 → j ≠ 104 → M_47 j = M j := fun j q0 q1 q2 q3 q4 => (hF_63 j q1 q2 q3 q4).trans (hF_44 j q0)
            clear hF_44 hF_56
            rw [hr_51]; show W _ _ _ _ _ _ _ _ _ _ _ _ _ _ _ (F0 m 86 ls (.ref (ad_50 101) :: [.int (nI g), .int (nI f), .int (nI y), .ref (ad_16 100), .ref (ad_16 100)]))
            refine n_eqs (show ([.ref (ad_50 101), .int (nI g), .int (nI f), .int (nI y), .ref (ad_16 100), .ref (ad_16 100)] : List Value) = [.ref (ad_50 101), .int (nI g), .int (nI f), .int (nI y), .ref (ad_50 100), .ref (ad_50 100)] from by rw [hAd_62 100 (by decide) (by decide) (by decide) (by decide)]) ?_
            refine k_Nv (va_runI (As := [.int (nI y), .int (nI f), .int (nI g), .ref (ad_50 101)]) (rest := [.ref (ad_50 100)]) ⟨hx, hb, hml, hown, hts⟩ (c_X2_init l G z ad_50 M_47 (k := 100) (kd := y) (fm := nI f) (to := nI g) hm_79) (cwI 4 hts (gU (lwg_of t_655 rfl)) rfl rfl rfl sp_142 ml_142 in_142 rfl (by decide +kernel) ⟨Nat.le_of_ble_eq_true rfl, Nat.le_of_ble_eq_true rfl⟩) hI.preS rfl rfl hl.1 rfl (lv_room (Nat.le_of_ble_eq_true rfl)) dX9_put_86 ⟨Nat.le_of_ble_eq_true rfl, Nat.le_of_ble_eq_true rfl⟩) hI (fun M_84 H_85 locs_86 hp_83 hI => ?_)
            obtain ⟨hm_87, hF_88⟩ := hp_83
            have hm_89 : M_84 0 = some (cStore ad_50 qa qs fw) := by rw [hF_88 0 (by omega)]; exact hm_64
            have hm_90 : M_84 12 = some (cEnds ad_50 12 s0) := by rw [hF_88 12 (by omega)]; exact hm_65
            have hm_91 : M_84 13 = some (aI G 6 (nF r0)) := by rw [hF_88 13 (by omega)]; exact hm_66
            have hm_92 : M_84 14 = some (aI G 6 (oF th)) := by rw [hF_88 14 (by omega)]; exact hm_67
            have hm_93 : M_84 15 = some (aI G 6 (oF ol)) := by rw [hF_88 15 (by omega)]; exact hm_68
            have hm_94 : M_84 16 = some (cLines ad_50 ) := by rw [hF_88 16 (by omega)]; exact hm_69
            have hm_95 : M_84 3 = some (cLaws ad_50 ) := by rw [hF_88 3 (by omega)]; exact hm_70
            have hm_96 : M_84 4 = some (aI G 36 (nF le)) := by rw [hF_88 4 (by omega)]; exact hm_71
            have hm_97 : M_84 5 = some (aI G 36 (nF mo)) := by rw [hF_88 5 (by omega)]; exact hm_72
            have hm_98 : M_84 6 = some (aI G 36 (nF al)) := by rw [hF_88 6 (by omega)]; exact hm_73
            have hm_99 : M_84 8 = some (cOnes ad_50 jn) := by rw [hF_88 8 (by omega)]; exact hm_74
            have hm_100 : M_84 10 = some (aI G 40 (nF lst)) := by rw [hF_88 10 (by omega)]; exact hm_75
            have hm_101 : M_84 20 = some (aI G 120 ff) := by rw [hF_88 20 (by omega)]; exact hm_76
            have hm_102 : M_84 21 = some (aI G 120 lq) := by rw [hF_88 21 (by omega)]; exact hm_77
            have hm_103 : M_84 17 = some (cList ad_50 mcn G.2.2.2.2 0) := by rw [hF_88 17 (by omega)]; exact hm_78
            have hm_104 : M_84 101 = some (cEnds ad_50 101 s0) := by rw [hF_88 101 (by omega)]; exact hm_58
            have hm_105 : M_84 102 = some (aI G 6 (nF (frs s0 r0))) := by rw [hF_88 102 (by omega)]; exact hm_59
            have hm_106 : M_84 103 = some (aI G 6 (oF (thE (frsE s0 e0)))) := by rw [hF_88 103 (by omega)]; exact hm_60
            have hm_107 : M_84 104 = some (aI G 6 (oF (olE (frsE s0 e0)))) := by rw [hF_88 104 (by omega)]; exact hm_61
            have fr_108 : M_84 18 = none := by rw [hF_88 18 (by omega)]; exact fr_80
            have hF_109 : ∀ j : Nat, j ≠ 100 → j ≠ 101 → j ≠ 102 → j ≠ 103 → j ≠ 104 → M_84 j = M j := fun j q0 q1 q2 q3 q4 => (hF_88 j q0).trans (hF_81 j q0 q1 q2 q3 q4)
            refine lv_astore (lv' := [(4, .ref (ad_50 100)), (0, .ref (ad 0)), (1, .int (nI y)), (2, .int (nI f)), (3, .int (nI g))]) hx hb dX9_put_89 hl (by decide) rfl (fun ls hl => ?_)
            refine lv_aload_n hx hb dX9_put_91 rfl (lv_at hl 1 rfl) ?_
            refine n_eqv (show Value.ref (ad 0) = .ref (ad_50 0) from by rw [hAd_62 0 (by decide) (by decide) (by decide) (by decide), hAd_22 0 (by decide)]) ?_
            refine h_get (C := RX9) (T := TX9) (N := 10) hx hb hts i_RX9 hown hI hm_89 rfl 3 (by decide) f_33 rfl rfl dX9_put_92 ?_
            refine k_Nv (va_runV (As := []) (rest := []) ⟨hx, hb, hml, hown, hts⟩ (c_X0_clear l G z ad_50 M_84 (sz := s0) hm_90) (cwV 0 hts (gV (lwg_of t_682 rfl) (lwg_of t_683 rfl) (lwg_of t_684 rfl) (lwg_of t_5 rfl) (lwg_of t_685 rfl)) rfl rfl rfl (by decide +kernel) ⟨Nat.le_of_ble_eq_true rfl, Nat.le_of_ble_eq_true rfl⟩) (hI.preV hm_90 rfl) rfl rfl hl.1 rfl (lv_room (Nat.le_of_ble_eq_true rfl)) dX9_put_95 ⟨Nat.le_of_ble_eq_true rfl, Nat.le_of_ble_eq_true rfl⟩) hI (fun M_112 H_113 locs_114 hp_111 hI => ?_)
            obtain ⟨hm_115, hF_116⟩ := hp_111
            have hm_117 : M_112 0 = some (cStore ad_50 qa qs fw) := by rw [hF_116 0 (by omega)]; exact hm_89
            have hm_118 : M_112 13 = some (aI G 6 (nF r0)) := by rw [hF_116 13 (by omega)]; exact hm_91
            have hm_119 : M_112 14 = some (aI G 6 (oF th)) := by rw [hF_116 14 (by omega)]; exact hm_92
            have hm_120 : M_112 15 = some (aI G 6 (oF ol)) := by rw [hF_116 15 (by omega)]; exact hm_93
            have hm_121 : M_112 16 = some (cLines ad_50 ) := by rw [hF_116 16 (by omega)]; exact hm_94
            have hm_122 : M_112 3 = some (cLaws ad_50 ) := by rw [hF_116 3 (by omega)]; exact hm_95
            have hm_123 : M_112 4 = some (aI G 36 (nF le)) := by rw [hF_116 4 (by omega)]; exact hm_96
            have hm_124 : M_112 5 = some (aI G 36 (nF mo)) := by rw [hF_116 5 (by omega)]; exact hm_97
            have hm_125 : M_112 6 = some (aI G 36 (nF al)) := by rw [hF_116 6 (by omega)]; exact hm_98
            have hm_126 : M_112 8 = some (cOnes ad_50 jn) := by rw [hF_116 8 (by omega)]; exact hm_99
            have hm_127 : M_112 10 = some (aI G 40 (nF lst)) := by rw [hF_116 10 (by omega)]; exact hm_100
            have hm_128 : M_112 20 = some (aI G 120 ff) := by rw [hF_116 20 (by omega)]; exact hm_101
            have hm_129 : M_112 21 = some (aI G 120 lq) := by rw [hF_116 21 (by omega)]; exact hm_102
            have hm_130 : M_112 17 = some (cList ad_50 mcn G.2.2.2.2 0) := by rw [hF_116 17 (by omega)]; exact hm_103
            have hm_131 : M_112 100 = some (cLine ad_50 100 y (nI f) (nI g)) := by rw [hF_116 100 (by omega)]; exact hm_87
            have hm_132 : M_112 101 = some (cEnds ad_50 101 s0) := by rw [hF_116 101 (by omega)]; exact hm_104
            have hm_133 : M_112 102 = some (aI G 6 (nF (frs s0 r0))) := by rw [hF_116 102 (by omega)]; exact hm_105
            have hm_134 : M_112 103 = some (aI G 6 (oF (thE (frsE s0 e0)))) := by rw [hF_116 103 (by omega)]; exact hm_106
            have hm_135 : M_112 104 = some (aI G 6 (oF (olE (frsE s0 e0)))) := by rw [hF_116 104 (by omega)]; exact hm_107
            have fr_136 : M_112 18 = none := by rw [hF_116 18 (by omega)]; exact fr_108
            have hF_137 : ∀ j : Nat, j ≠ 100 → j ≠ 101 → j ≠ 102 → j ≠ 103 → j ≠ 104 → j ≠ 12 → M_112 j = M j := fun j q0 q1 q2 q3 q4 q5 => (hF_116 j q5).trans (hF_109 j q0 q1 q2 q3 q4)
            have hL9 : LSm G ad_50 M_112 0 kd fm to sz rl en := hL.mv (fun j hj => hF_137 j (by omega) (by omega) (by omega) (by omega) (by omega) (by omega)) (fun j hj => by rw [hAd_62 j (by omega) (by omega) (by omega) (by omega), hAd_22 j (by omega)])
            refine lv_aload_n hx hb dX9_put_98 rfl (lv_at hl 1 rfl) ?_
            refine n_eqv (show Value.ref (ad 0) = .ref (ad_50 0) from by rw [hAd_62 0 (by decide) (by decide) (by decide) (by decide), hAd_22 0 (by decide)]) ?_
            refine lv_aload hx hb dX9_put_99 (lv_at hl 0 rfl) ?_
            refine k_Ni (va_runV (As := [.ref (ad_50 100)]) (rest := []) ⟨hx, hb, hml, hown, hts⟩ (c_X9_whyRefused l G z ad_50 M_112 (n := 0) (kd := kd) (fm := fm) (to := to) (sz := sz) (rl := rl) (en := en) (qa := qa) (qs := qs) (fw := fw) (k := 100) (q := y) (f0 := (nI f)) (t0 := (nI g)) (s0 := s0) (r0 := frs s0 r0) (e0 := frsE s0 e0) (jn := jn) (lst := lst) (le := le) (mo := mo) (al := al) (ff := ff) (lf := lq) hL9 hm_117 hm_131 hm_132 hm_133 hm_134 hm_135 hm_122 hm_123 hm_124 hm_125 hm_126 hm_127 hm_128 hm_129 hw hs0 (fun j hj => by rw [frs_is hj]; exact hr0 j hj) (fun j hj => by rw [frsE_is hj]; exact he0 j hj) hlst hy (by omega) hle hmo hal) (cwV 1 hts (gV (lwg_of t_686 rfl) (lwg_of t_688 rfl) (lwg_of ts_8 rfl) (lwg_of t_1 rfl) (lwg_of t_689 rfl)) rfl rfl rfl (by decide +kernel) ⟨Nat.le_of_ble_eq_true rfl, Nat.le_of_ble_eq_true rfl⟩) (hI.preV hm_117 rfl) rfl rfl hl.1 rfl (lv_room (Nat.le_of_ble_eq_true rfl)) dX9_put_101 ⟨Nat.le_of_ble_eq_true rfl, Nat.le_of_ble_eq_true rfl⟩) hI (fun r_138 M_140 H_141 locs_142 hp_139 hI => ?_)
            obtain ⟨ff2_147, lf2_148, hm_143, hm_144, hF_145, hP_146⟩ := hp_139
            have hm_149 : M_140 0 = some (cStore ad_50 qa qs fw) := by rw [hF_145 0 (by omega) (by omega)]; exact hm_117
            have hm_150 : M_140 12 = some (cEnds ad_50 12 0) := by rw [hF_145 12 (by omega) (by omega)]; exact hm_115
            have hm_151 : M_140 13 = some (aI G 6 (nF r0)) := by rw [hF_145 13 (by omega) (by omega)]; exact hm_118
            have hm_152 : M_140 14 = some (aI G 6 (oF th)) := by rw [hF_145 14 (by omega) (by omega)]; exact hm_119
            have hm_153 : M_140 15 = some (aI G 6 (oF ol)) := by rw [hF_145 15 (by omega) (by omega)]; exact hm_120
            have hm_154 : M_140 16 = some (cLines ad_50 ) := by rw [hF_145 16 (by omega) (by omega)]; exact hm_121
            have hm_155 : M_140 3 = some (cLaws ad_50 ) := by rw [hF_145 3 (by omega) (by omega)]; exact hm_122
            have hm_156 : M_140 4 = some (aI G 36 (nF le)) := by rw [hF_145 4 (by omega) (by omega)]; exact hm_123
            have hm_157 : M_140 5 = some (aI G 36 (nF mo)) := by rw [hF_145 5 (by omega) (by omega)]; exact hm_124
            have hm_158 : M_140 6 = some (aI G 36 (nF al)) := by rw [hF_145 6 (by omega) (by omega)]; exact hm_125
            have hm_159 : M_140 8 = some (cOnes ad_50 jn) := by rw [hF_145 8 (by omega) (by omega)]; exact hm_126
            have hm_160 : M_140 10 = some (aI G 40 (nF lst)) := by rw [hF_145 10 (by omega) (by omega)]; exact hm_127
            have hm_161 : M_140 17 = some (cList ad_50 mcn G.2.2.2.2 0) := by rw [hF_145 17 (by omega) (by omega)]; exact hm_130
            have hm_162 : M_140 100 = some (cLine ad_50 100 y (nI f) (nI g)) := by rw [hF_145 100 (by omega) (by omega)]; exact hm_131
            have hm_163 : M_140 101 = some (cEnds ad_50 101 s0) := by rw [hF_145 101 (by omega) (by omega)]; exact hm_132
            have hm_164 : M_140 102 = some (aI G 6 (nF (frs s0 r0))) := by rw [hF_145 102 (by omega) (by omega)]; exact hm_133
            have hm_165 : M_140 103 = some (aI G 6 (oF (thE (frsE s0 e0)))) := by rw [hF_145 103 (by omega) (by omega)]; exact hm_134
            have hm_166 : M_140 104 = some (aI G 6 (oF (olE (frsE s0 e0)))) := by rw [hF_145 104 (by omega) (by omega)]; exact hm_135
            have fr_167 : M_140 18 = none := by rw [hF_145 18 (by omega) (by omega)]; exact fr_136
            have hL_168 : LSm G ad_50 M_140 0 kd fm to sz rl en := hL9.keep (fun j hj => hF_145 j (by omega) (by omega))
            have hF_169 : ∀ j : Nat, j ≠ 100 → j ≠ 101 → j ≠ 102 → j ≠ 103 → j ≠ 104 → j ≠ 12 → j ≠ 20 → j ≠ 21 → M_140 j = M j := fun j q0 q1 q2 q3 q4 q5 q6 q7 => (hF_145 j q6 q7).trans (hF_137 j q0 q1 q2 q3 q4 q5)
            have hP9 := hP_146
            rw [alw_cg (r0 := frs s0 r0) (r1 := r0) (fun j hj => frs_is hj), brs_cg (e0 := frsE s0 e0) (e1 := e0) (fun j hj => frsE_is hj), crw_cg (r0 := frs s0 r0) (r1 := r0) (e0 := frsE s0 e0) (e1 := e0) (fun j hj => frs_is hj) (fun j hj => frsE_is hj)] at hP9
            have hr9 : r_138 = nI 0 := by
              rcases hP9 with h | h | h | h
              · exact absurd hok.1 h.2
              · exact absurd hok.2.1 h.2.2
              · exact absurd h.2.2.2 hok.2.2
              · exact h.1
            refine n_eq hr9 ?_
            refine lv_istore (lv' := [(5, .int (nI 0)), (4, .ref (ad_50 100)), (0, .ref (ad 0)), (1, .int (nI y)), (2, .int (nI f)), (3, .int (nI g))]) hx hb dX9_put_104 hl (by decide) rfl (fun ls hl => ?_)
            refine lv_iload hx hb dX9_put_106 (lv_at hl 0 rfl) ?_
            refine lv_if_ne (tgt := 123) hx hb dX9_put_108 (by decide) (fun c_170 => ?_) (fun c_170 => ?_)
            · -- 108: nI 0 ne
              exact absurd (by decide) c_170
            · -- 108: nI 0 eq
              refine lv_aload_n hx hb dX9_put_111 rfl (lv_at hl 2 rfl) ?_
              refine n_eqv (show Value.ref (ad 0) = .ref (ad_50 0) from by rw [hAd_62 0 (by decide) (by decide) (by decide) (by decide), hAd_22 0 (by decide)]) ?_
              refine h_get (C := RX9) (T := TX9) (N := 10) hx hb hts i_RX9 hown hI hm_149 rfl 4 (by decide) f_40 rfl rfl dX9_put_112 ?_
              refine lv_aload hx hb dX9_put_115 (lv_at hl 1 rfl) ?_
              refine k_Ai (va_runV (As := [.ref (ad_50 100)]) (rest := []) ⟨hx, hb, hml, hown, hts⟩ (c_X3_add_0 l G z ad_50 M_140 (mcn := mcn) (k := 100) (kd := y) (fm := (nI f)) (to := (nI g)) hm_154 hm_161 hm_162 (by omega) fr_167) (cwV 1 hts (gV (lwg_of t_749 rfl) (lwg_of t_750 rfl) (lwg_of t_751 rfl) (lwg_of t_6 rfl) (lwg_of t_752 rfl)) rfl rfl rfl (by decide +kernel) ⟨Nat.le_of_ble_eq_true rfl, Nat.le_of_ble_eq_true rfl⟩) (hI.preV hm_154 rfl) rfl rfl hl.1 rfl (lv_room (Nat.le_of_ble_eq_true rfl)) dX9_put_117 ⟨Nat.le_of_ble_eq_true rfl, Nat.le_of_ble_eq_true rfl⟩) hI (fun r_171 ad_176 M_173 H_174 locs_175 hp_172 hI => ?_)
              obtain ⟨hr_177, hm_178, hm_179, hF_180, hAd_181⟩ := hp_172
              have hm_182 : M_173 17 = some (cList ad_176 (mcn + nI 1) (ad_176 18) 1) := hm_178
              have hm_183 : M_173 18 = some (aO G 10 (va_up (fun _ => none) 0 (some (ad_176 100)))) := hm_179
              have hAd_184 : ∀ j : Nat, j ≠ 18 → ad_176 j = ad_50 j := hAd_181
              have hF_185 : ∀ j : Nat, j ≠ 17 → j ≠ 18 → M_173 j = M_140 j := hF_180
              have hm_186 : M_173 0 = some (cStore ad_176 qa qs fw) := by rw [hF_185 0 (by decide) (by decide), hm_149]; simp only [cStore, hAd_184 1 (by decide), hAd_184 3 (by decide), hAd_184 8 (by decide), hAd_184 12 (by decide), hAd_184 16 (by decide), hAd_184 22 (by decide), hAd_184 23 (by decide), hAd_184 qa (by omega), hAd_184 qs (by omega)]
              have hm_187 : M_173 12 = some (cEnds ad_176 12 0) := by rw [hF_185 12 (by decide) (by decide), hm_150]; simp only [cEnds, hAd_184 13 (by decide), hAd_184 14 (by decide), hAd_184 15 (by decide)]
              have hm_188 : M_173 13 = some (aI G 6 (nF r0)) := by rw [hF_185 13 (by decide) (by decide), hm_151]
              have hm_189 : M_173 14 = some (aI G 6 (oF th)) := by rw [hF_185 14 (by decide) (by decide), hm_152]
              have hm_190 : M_173 15 = some (aI G 6 (oF ol)) := by rw [hF_185 15 (by decide) (by decide), hm_153]
              have hm_191 : M_173 16 = some (cLines ad_176 ) := by rw [hF_185 16 (by decide) (by decide), hm_154]; simp only [cLines, hAd_184 17 (by decide), hAd_184 19 (by decide), hAd_184 20 (by decide), hAd_184 21 (by decide)]
              have hm_192 : M_173 3 = some (cLaws ad_176 ) := by rw [hF_185 3 (by decide) (by decide), hm_155]; simp only [cLaws, hAd_184 4 (by decide), hAd_184 5 (by decide), hAd_184 6 (by decide), hAd_184 7 (by decide)]
              have hm_193 : M_173 4 = some (aI G 36 (nF le)) := by rw [hF_185 4 (by decide) (by decide), hm_156]
              have hm_194 : M_173 5 = some (aI G 36 (nF mo)) := by rw [hF_185 5 (by decide) (by decide), hm_157]
              have hm_195 : M_173 6 = some (aI G 36 (nF al)) := by rw [hF_185 6 (by decide) (by decide), hm_158]
              have hm_196 : M_173 8 = some (cOnes ad_176 jn) := by rw [hF_185 8 (by decide) (by decide), hm_159]; simp only [cOnes, hAd_184 9 (by decide), hAd_184 10 (by decide), hAd_184 11 (by decide)]
              have hm_197 : M_173 10 = some (aI G 40 (nF lst)) := by rw [hF_185 10 (by decide) (by decide), hm_160]
              have hm_198 : M_173 20 = some (aI G 120 ff2_147) := by rw [hF_185 20 (by decide) (by decide), hm_143]
              have hm_199 : M_173 21 = some (aI G 120 lf2_148) := by rw [hF_185 21 (by decide) (by decide), hm_144]
              have hm_200 : M_173 100 = some (cLine ad_176 100 y (nI f) (nI g)) := by rw [hF_185 100 (by decide) (by decide), hm_162]; simp only [cLine, hAd_184 101 (by decide)]
              have hm_201 : M_173 101 = some (cEnds ad_176 101 s0) := by rw [hF_185 101 (by decide) (by decide), hm_163]; simp only [cEnds, hAd_184 102 (by decide), hAd_184 103 (by decide), hAd_184 104 (by decide)]
              have hm_202 : M_173 102 = some (aI G 6 (nF (frs s0 r0))) := by rw [hF_185 102 (by decide) (by decide), hm_164]
              have hm_203 : M_173 103 = some (aI G 6 (oF (thE (frsE s0 e0)))) := by rw [hF_185 103 (by decide) (by decide), hm_165]
              have hm_204 : M_173 104 = some (aI G 6 (oF (olE (frsE s0 e0)))) := by rw [hF_185 104 (by decide) (by decide), hm_166]
              clear hm_149 hm_150 hm_151 hm_152 hm_153 hm_154 hm_155 hm_156 hm_157 hm_158 hm_159 hm_160 hm_143 hm_144 hm_162 hm_163 hm_164 hm_165 hm_166
              have hF_205 : ∀ j : Nat, j ≠ 100 → j ≠ 101 → j ≠ 102 → j ≠ 103 → j ≠ 104 → j ≠ 12 → j ≠ 20 → j ≠ 21 → j ≠ 17 → j ≠ 18 → M_173 j = M j := fun j q0 q1 q2 q3 q4 q5 q6 q7 q8 q9 => (hF_185 j q8 q9).trans (hF_169 j q0 q1 q2 q3 q4 q5 q6 q7)
              clear hF_169 hF_180
              rw [hr_177]
              refine lv_goto (tgt := 126) hx hb dX9_put_120 (by decide) ?_
              exact e_Ai hx hb hr rfl hlocks hI ⟨ff2_147, lf2_148, rfl, hm_187, hm_198, hm_199, hm_200, hm_201, hm_202, hm_203, hm_204, hm_182, hm_183, (fun j q0 q1 q2 q3 q4 q5 q6 q7 q8 q9 => hF_205 j q3 q4 q5 q6 q7 q0 q1 q2 q8 q9), (fun j q0 q1 q2 q3 q4 q5 => (by show ad_176 j = ad j; rw [hAd_184 j q5, hAd_62 j q1 q2 q3 q4, hAd_22 j q0]))⟩ dX9_put_126
          · -- 59: nI 0 ge
            exact absurd (by decide) c_15
        · -- 37: nI s0 eq
          have c_12 : s0 = 0 := (nI_eq (a := s0) (b := 0) (by omega) (by omega)).mp (c_12)
          omega
      · -- 17: nI g gt
        have c_9 : 1000 < g := by have h := mt (nI_leI (a := g) (b := 1000) (by omega) (by omega)).mpr c_9; omega
        omega

/-- X9_put -/
abbrev rm_c_X9_putk_b : Room := { frames := 6, cells := 5, slots := 26, locals := 139 }
set_option maxHeartbeats 4000000 in
set_option maxRecDepth 100000 in
theorem c_X9_putk_b (l : Launch) (G : GG) (z : Nat) (ad : Nat → Nat) (M : Mem) {n : Nat} {kd : Nat → Nat} {fm : Nat → Int32} {to : Nat → Int32} {sz : Nat → Nat} {rl : Nat → Nat → Nat} {en : Nat → Nat → Nat} {qa : Nat} {qs : Nat} {fw : Int32} {s0 : Nat} {r0 : Nat → Nat} {th : Nat → Option Nat} {ol : Nat → Option Nat} {e0 : Nat → Nat} {le : Nat → Nat} {mo : Nat → Nat} {al : Nat → Nat} {jn : Nat} {lst : Nat → Nat} {ff : Nat → Int32} {lq : Nat → Int32} {y : Nat} {f : Nat} {g : Nat} {mcn : Int32} {ed : Nat} {cap : Nat} {lf : Nat → Option Nat} (h0 : M 0 = some (cStore ad qa qs fw)) (h12 : M 12 = some (cEnds ad 12 s0)) (h13 : M 13 = some (aI G 6 (nF r0))) (h14 : M 14 = some (aI G 6 (oF th))) (h15 : M 15 = some (aI G 6 (oF ol))) (h16 : M 16 = some (cLines ad )) (h3 : M 3 = some (cLaws ad )) (h4 : M 4 = some (aI G 36 (nF le))) (h5 : M 5 = some (aI G 36 (nF mo))) (h6 : M 6 = some (aI G 36 (nF al))) (h8 : M 8 = some (cOnes ad jn)) (h10 : M 10 = some (aI G 40 (nF lst))) (h20 : M 20 = some (aI G 120 ff)) (h21 : M 21 = some (aI G 120 lq)) (h17 : M 17 = some (cList ad mcn ed n)) (h18 : M 18 = some (aO G cap lf)) (hqa : 29 < qa ∧ qa < 51) (hqs : 29 < qs ∧ qs < 51) (hL : LSm G ad M n kd fm to sz rl en) (hw : LSw n kd sz rl en) (hs1 : 0 < s0) (hs0 : s0 ≤ 6) (hn1 : n < 120) (hr0 : ∀ j, j < s0 → r0 j < 6) (he0 : ∀ j, j < s0 → e0 j < 40 + n) (hth : ∀ j, j < s0 → th j = thE e0 j) (hol : ∀ j, j < s0 → ol j = olE e0 j) (hlst : ∀ u, u < 40 → lst u < 40) (hy : y < 6) (hfg : f ≤ g ∧ g ≤ 1000) (hle : ∀ j, j < 36 → le j < 100) (hmo : ∀ j, j < 36 → mo j < 100) (hal : ∀ j, j < 36 → al j ≤ 100) (hok : alw le mo r0 s0 y 6 ∧ brs fm to e0 (nI f) (nI g) s0 ∧ ¬ crw n kd fm to sz rl en lst al y (nI f) (nI g) r0 e0 s0) (hed : ed = ad 18) (hn : n < cap ∧ cap ≤ 1000) (fre0 : M (100 + 5 * n) = none) (fre1 : M (100 + 5 * n + 1) = none) (fre2 : M (100 + 5 * n + 2) = none) (fre3 : M (100 + 5 * n + 3) = none) (fre4 : M (100 + 5 * n + 4) = none) : Met l yX9_put wsX9_put rm_c_X9_putk_b (Pr G z ad M [.ref (ad 0), .int (nI y), .int (nI f), .int (nI g)]) (Ai G z (fun (r : Int32) (u : (Nat → Nat) × Mem) => ∃ ff2 : Nat → Int32, ∃ lq2 : Nat → Int32, r = nI n ∧ u.2 12 = some (cEnds u.1 12 0) ∧ u.2 20 = some (aI G 120 ff2) ∧ u.2 21 = some (aI G 120 lq2) ∧ u.2 (100 + 5 * n) = some (cLine u.1 (100 + 5 * n) y (nI f) (nI g)) ∧ u.2 (100 + 5 * n + 1) = some (cEnds u.1 (100 + 5 * n + 1) s0) ∧ u.2 (100 + 5 * n + 2) = some (aI G 6 (nF (frs s0 r0))) ∧ u.2 (100 + 5 * n + 3) = some (aI G 6 (oF (thE (frsE s0 e0)))) ∧ u.2 (100 + 5 * n + 4) = some (aI G 6 (oF (olE (frsE s0 e0)))) ∧ u.2 17 = some (cList u.1 (mcn + nI 1) ed (n + 1)) ∧ u.2 18 = some (aO G cap (va_up lf n (some (u.1 (100 + 5 * n))))) ∧ (∀ j : Nat, j ≠ 12 → j ≠ 20 → j ≠ 21 → j ≠ (100 + 5 * n) → j ≠ (100 + 5 * n + 1) → j ≠ (100 + 5 * n + 2) → j ≠ (100 + 5 * n + 3) → j ≠ (100 + 5 * n + 4) → j ≠ 17 → j ≠ 18 → u.2 j = M j) ∧ (∀ j : Nat, j ≠ (100 + 5 * n) → j ≠ (100 + 5 * n + 1) → j ≠ (100 + 5 * n + 2) → j ≠ (100 + 5 * n + 3) → j ≠ (100 + 5 * n + 4) → u.1 j = ad j))) 5 26 (fr z) := by
  refine Met.ofW (cc := cX9_put) (maxL := 6) (ret := (some .int)) (by decide) rfl ?_
  intro p e s m args below meth c s₁ B hml hv
  obtain ⟨rfl, hv⟩ := hv
  have hI := Iv.entry hv
  have hx := B.exec
  have hb := B.bytes
  have hr := B.returns
  have hts := atoms_spec (ws := wsX9_put) B.pre
  have hown : s.vm.findClass RX9 = some m.cls := findClass_of_methodNamed B.named
  have hlocks := B.notSynchronized
  have i_RX9 : ∀ w ∈ u_ws RX9 TX9 10, w ∈ wsX9_put := fun w h => List.mem_cons_of_mem _ (iu_X9 w h)
  have f_33 := hts _ (List.mem_cons_of_mem _ (lwg_of t_242 rfl))
  have f_40 := hts _ (List.mem_cons_of_mem _ (lwg_of t_243 rfl))
  have nw_i136 := hts _ (List.mem_cons_of_mem _ (lwg_of t_643 rfl))
  have nw_n136 := hts _ (List.mem_cons_of_mem _ (lwg_of t_21 rfl))
  have i_RX2 : ∀ w ∈ u_ws RX2 TX2 4, w ∈ wsX9_put := fun w h => List.mem_cons_of_mem _ (iu_X2 w h)
  have nw_c136 := hts _ (List.mem_cons_of_mem _ (lwg_of t_642 rfl))
  have sp_142 := hts _ (List.mem_cons_of_mem _ (lwg_of t_21 rfl))
  have in_142 := hts _ (List.mem_cons_of_mem _ (lwg_of t_654 rfl))
  have ml_142 := hts _ (List.mem_cons_of_mem _ (lwg_of t_653 rfl))
  have hl := lv_entry ([.ref (ad 0), .int (nI y), .int (nI f), .int (nI g)]) (n := 6) (Nat.le_of_ble_eq_true rfl)
  rw [lg_entry_eq]
  generalize (lg_sl ([.ref (ad 0), .int (nI y), .int (nI f), .int (nI g)]) ++ List.replicate (6 - (lg_sl ([.ref (ad 0), .int (nI y), .int (nI f), .int (nI g)])).length) Slot.unset).toArray = ls at hl ⊢
  have hl : lv_has ls 6 [(0, .ref (ad 0)), (1, .int (nI y)), (2, .int (nI f)), (3, .int (nI g))] := hl
  have hw1 := hw.1
  refine lv_iload_n hx hb dX9_put_0 rfl (lv_at hl 1 rfl) ?_
  refine k_Nv (va_runS (As := [.int (nI y)]) (rest := []) ⟨hx, hb, hml, hown, hts⟩ (c_X9_checkKind l G z ad M (t := y) hy) (va_cwS 1 hts (gS (lwg_of t_477 rfl) (lwg_of t_478 rfl) (lwg_of t_1 rfl) (lwg_of t_479 rfl)) rfl rfl rfl (by decide +kernel) ⟨Nat.le_of_ble_eq_true rfl, Nat.le_of_ble_eq_true rfl⟩) hI.preS rfl rfl hl.1 rfl (lv_room (Nat.le_of_ble_eq_true rfl)) dX9_put_1 ⟨Nat.le_of_ble_eq_true rfl, Nat.le_of_ble_eq_true rfl⟩) hI (fun M_3 H_4 locs_5 hp_2 hI => ?_)
  have eM_6 : M = M_3 := (funext hp_2).symm
  subst eM_6
  refine lv_iload_n hx hb dX9_put_4 rfl (lv_at hl 2 rfl) ?_
  refine lv_if_lt (tgt := 20) hx hb dX9_put_5 (by decide) (fun c_7 => ?_) (fun c_7 => ?_)
  · -- 5: nI f lt
    have c_7 : f < 0 := (nI_ltI (a := f) (b := 0) (by omega) (by omega)).mp (c_7)
    omega
  · -- 5: nI f ge
    have c_7 : 0 ≤ f := by have h := mt (nI_ltI (a := f) (b := 0) (by omega) (by omega)).mpr c_7; omega
    refine lv_iload_n hx hb dX9_put_8 rfl (lv_at hl 2 rfl) ?_
    refine lv_iload_n hx hb dX9_put_9 rfl (lv_at hl 3 rfl) ?_
    refine lv_icmp_gt (tgt := 20) hx hb dX9_put_10 (by decide) (fun c_8 => ?_) (fun c_8 => ?_)
    · -- 10: nI f gt
      have c_8 : g < f := (nI_ltI (a := g) (b := f) (by omega) (by omega)).mp (c_8)
      omega
    · -- 10: nI f le
      have c_8 : f ≤ g := by have h := mt (nI_ltI (a := g) (b := f) (by omega) (by omega)).mpr c_8; omega
      refine lv_iload_n hx hb dX9_put_13 rfl (lv_at hl 3 rfl) ?_
      refine lv_sipush (v := nI 1000) hx hb dX9_put_14 (by decide) ?_
      refine lv_icmp_le (tgt := 30) hx hb dX9_put_17 (by decide) (fun c_9 => ?_) (fun c_9 => ?_)
      · -- 17: nI g le
        have c_9 : g ≤ 1000 := (nI_leI (a := g) (b := 1000) (by omega) (by omega)).mp (c_9)
        refine lv_aload_n hx hb dX9_put_30 rfl (lv_at hl 0 rfl) ?_
        refine h_get (C := RX9) (T := TX9) (N := 10) hx hb hts i_RX9 hown hI h0 rfl 3 (by decide) f_33 rfl rfl dX9_put_31 ?_
        refine k_Ri (va_runV (As := []) (rest := []) ⟨hx, hb, hml, hown, hts⟩ (c_X0_size l G z ad M (k := 12) (sz := s0) h12) (cwV 0 hts (gV (lwg_of t_450 rfl) (lwg_of t_451 rfl) (lwg_of t_452 rfl) (lwg_of t_5 rfl) (lwg_of t_453 rfl)) rfl rfl rfl (by decide +kernel) ⟨Nat.le_of_ble_eq_true rfl, Nat.le_of_ble_eq_true rfl⟩) (hI.preV h12 rfl) rfl rfl hl.1 rfl (lv_room (Nat.le_of_ble_eq_true rfl)) dX9_put_34 ⟨Nat.le_of_ble_eq_true rfl, Nat.le_of_ble_eq_true rfl⟩) (fun _ h => h) (fun r_10 hp_11 => ?_)
        rw [hp_11]
        refine lv_if_ne (tgt := 50) hx hb dX9_put_37 (by decide) (fun c_12 => ?_) (fun c_12 => ?_)
        · -- 37: nI s0 ne
          have c_12 : s0 ≠ 0 := by have h := mt (nI_eq (a := s0) (b := 0) (by omega) (by omega)).mpr c_12; omega
          refine lv_aload_n hx hb dX9_put_50 rfl (lv_at hl 0 rfl) ?_
          refine h_get (C := RX9) (T := TX9) (N := 10) hx hb hts i_RX9 hown hI h0 rfl 4 (by decide) f_40 rfl rfl dX9_put_51 ?_
          refine k_Ri (va_runV (As := []) (rest := []) ⟨hx, hb, hml, hown, hts⟩ (c_X3_size l G z ad M (n := n) (kd := kd) (fm := fm) (to := to) (sz := sz) (rl := rl) (en := en) hL) (cwV 0 hts (gV (lwg_of t_449 rfl) (lwg_of t_325 rfl) (lwg_of t_326 rfl) (lwg_of t_6 rfl) (lwg_of t_327 rfl)) rfl rfl rfl (by decide +kernel) ⟨Nat.le_of_ble_eq_true rfl, Nat.le_of_ble_eq_true rfl⟩) (hI.preV h16 rfl) rfl rfl hl.1 rfl (lv_room (Nat.le_of_ble_eq_true rfl)) dX9_put_54 ⟨Nat.le_of_ble_eq_true rfl, Nat.le_of_ble_eq_true rfl⟩) (fun _ h => h) (fun r_13 hp_14 => ?_)
          rw [hp_14]
          refine lv_bipush (v := nI 120) hx hb dX9_put_57 (by decide) ?_
          refine lv_icmp_lt (tgt := 72) hx hb dX9_put_59 (by decide) (fun c_15 => ?_) (fun c_15 => ?_)
          · -- 59: nI n lt
            have c_15 : n < 120 := (nI_ltI (a := n) (b := 120) (by omega) (by omega)).mp (c_15)
            refine h_new (C := RX2) (T := TX2) (N := 4) (ci := 3) (fs := [.int (nI 0), .int (nI 0), .int (nI 0), .null]) hx hb hts i_RX2 tyX2 tyX2_ok hown nw_c136 nw_i136 nw_n136 hI rfl (fun j hj => match j, hj with | 0, _ => rfl | 1, _ => rfl | 2, _ => rfl | 3, _ => rfl | n + 4, h => absurd h (by omega)) (Nat.le_of_ble_eq_true rfl) (Nat.le_of_ble_eq_true rfl) dX9_put_72 (100 + 5 * n) fre0 (fun ad_16 M_17 H_18 hA_19 eM_20 hI => ?_)
            have hAd_22 : ∀ j : Nat, j ≠ (100 + 5 * n) → ad_16 j = ad j := fun j hj => by obtain ⟨q, e⟩ := hA_19; rw [e]; exact va_up_ne _ _ hj
            have hm_23 : M_17 (100 + 5 * n) = some (.inr (3, [.int (nI 0), .int (nI 0), .int (nI 0), .null])) := by rw [eM_20]; exact va_up_self _ _ _
            have hm_24 : M_17 0 = some (cStore ad_16 qa qs fw) := by rw [eM_20, va_up_ne _ _ (by omega), h0]; simp only [cStore, hAd_22 1 (by omega), hAd_22 3 (by omega), hAd_22 8 (by omega), hAd_22 12 (by omega), hAd_22 16 (by omega), hAd_22 22 (by omega), hAd_22 23 (by omega), hAd_22 qa (by omega), hAd_22 qs (by omega)]
            have hm_25 : M_17 12 = some (cEnds ad_16 12 s0) := by rw [eM_20, va_up_ne _ _ (by omega), h12]; simp only [cEnds, hAd_22 13 (by omega), hAd_22 14 (by omega), hAd_22 15 (by omega)]
            have hm_26 : M_17 13 = some (aI G 6 (nF r0)) := by rw [eM_20, va_up_ne _ _ (by omega), h13]
            have hm_27 : M_17 14 = some (aI G 6 (oF th)) := by rw [eM_20, va_up_ne _ _ (by omega), h14]
            have hm_28 : M_17 15 = some (aI G 6 (oF ol)) := by rw [eM_20, va_up_ne _ _ (by omega), h15]
            have hm_29 : M_17 16 = some (cLines ad_16 ) := by rw [eM_20, va_up_ne _ _ (by omega), h16]; simp only [cLines, hAd_22 17 (by omega), hAd_22 19 (by omega), hAd_22 20 (by omega), hAd_22 21 (by omega)]
            have hm_30 : M_17 3 = some (cLaws ad_16 ) := by rw [eM_20, va_up_ne _ _ (by omega), h3]; simp only [cLaws, hAd_22 4 (by omega), hAd_22 5 (by omega), hAd_22 6 (by omega), hAd_22 7 (by omega)]
            have hm_31 : M_17 4 = some (aI G 36 (nF le)) := by rw [eM_20, va_up_ne _ _ (by omega), h4]
            have hm_32 : M_17 5 = some (aI G 36 (nF mo)) := by rw [eM_20, va_up_ne _ _ (by omega), h5]
            have hm_33 : M_17 6 = some (aI G 36 (nF al)) := by rw [eM_20, va_up_ne _ _ (by omega), h6]
            have hm_34 : M_17 8 = some (cOnes ad_16 jn) := by rw [eM_20, va_up_ne _ _ (by omega), h8]; simp only [cOnes, hAd_22 9 (by omega), hAd_22 10 (by omega), hAd_22 11 (by omega)]
            have hm_35 : M_17 10 = some (aI G 40 (nF lst)) := by rw [eM_20, va_up_ne _ _ (by omega), h10]
            have hm_36 : M_17 20 = some (aI G 120 ff) := by rw [eM_20, va_up_ne _ _ (by omega), h20]
            have hm_37 : M_17 21 = some (aI G 120 lq) := by rw [eM_20, va_up_ne _ _ (by omega), h21]
            have hm_38 : M_17 17 = some (cList ad_16 mcn ed n) := by rw [eM_20, va_up_ne _ _ (by omega), h17]
            have hm_39 : M_17 18 = some (aO G cap lf) := by rw [eM_20, va_up_ne _ _ (by omega), h18]
            have fr_40 : M_17 (100 + 5 * n + 1) = none := by rw [eM_20, va_up_ne _ _ (by omega)]; exact fre1
            have fr_41 : M_17 (100 + 5 * n + 2) = none := by rw [eM_20, va_up_ne _ _ (by omega)]; exact fre2
            have fr_42 : M_17 (100 + 5 * n + 3) = none := by rw [eM_20, va_up_ne _ _ (by omega)]; exact fre3
            have fr_43 : M_17 (100 + 5 * n + 4) = none := by rw [eM_20, va_up_ne _ _ (by omega)]; exact fre4
            have hF_44 : ∀ j : Nat, j ≠ (100 + 5 * n) → M_17 j = M j := fun j q0 => by rw [eM_20, va_up_ne _ _ q0]
            refine lv_dup hx hb dX9_put_75 rfl ?_
            refine lv_iload_n hx hb dX9_put_76 rfl (lv_at hl 1 rfl) ?_
            refine lv_iload_n hx hb dX9_put_77 rfl (lv_at hl 2 rfl) ?_
            refine lv_iload_n hx hb dX9_put_78 rfl (lv_at hl 3 rfl) ?_
            refine lv_aload_n hx hb dX9_put_79 rfl (lv_at hl 0 rfl) ?_
            refine n_eqv (show Value.ref (ad 0) = .ref (ad_16 0) from by rw [hAd_22 0 (by omega)]) ?_
            refine h_get (C := RX9) (T := TX9) (N := 10) hx hb hts i_RX9 hown hI hm_24 rfl 3 (by decide) f_33 rfl rfl dX9_put_80 ?_
            refine k_Aq (va_runV (As := []) (rest := [.int (nI g), .int (nI f), .int (nI y), .ref (ad_16 (100 + 5 * n)), .ref (ad_16 (100 + 5 * n))]) ⟨hx, hb, hml, hown, hts⟩ (c_X0_copy l G z ad_16 M_17 (k := 100 + 5 * n + 1) (sz := s0) (rl := r0) (th := th) (ol := ol) (e0 := e0) hm_25 hm_26 hm_27 hm_28 hs0 (by omega) hth hol fr_40 fr_41 fr_42 fr_43) (cwV 0 hts (gV (lwg_of t_644 rfl) (lwg_of t_645 rfl) (lwg_of t_646 rfl) (lwg_of t_5 rfl) (lwg_of t_647 rfl)) rfl rfl rfl (by decide +kernel) ⟨Nat.le_of_ble_eq_true rfl, Nat.le_of_ble_eq_true rfl⟩) (hI.preV hm_25 rfl) rfl rfl hl.1 rfl (lv_room (Nat.le_of_ble_eq_true rfl)) dX9_put_83 ⟨Nat.le_of_ble_eq_true rfl, Nat.le_of_ble_eq_true rfl⟩) hI (fun r_45 ad_50 M_47 H_48 locs_49 hp_46 hI => ?_)
            obtain ⟨hr_51, hm_52, hm_53, hm_54, hm_55, hF_56, hAd_57⟩ := hp_46
            have hm_58 : M_47 (100 + 5 * n + 1) = some (cEnds ad_50 (100 + 5 * n + 1) s0) := hm_52
            have hm_59 : M_47 (100 + 5 * n + 2) = some (aI G 6 (nF (frs s0 r0))) := hm_53
            have hm_60 : M_47 (100 + 5 * n + 3) = some (aI G 6 (oF (thE (frsE s0 e0)))) := hm_54
            have hm_61 : M_47 (100 + 5 * n + 4) = some (aI G 6 (oF (olE (frsE s0 e0)))) := hm_55
            have hAd_62 : ∀ j : Nat, j ≠ (100 + 5 * n + 1) → j ≠ (100 + 5 * n + 2) → j ≠ (100 + 5 * n + 3) → j ≠ (100 + 5 * n + 4) → ad_50 j = ad_16 j := hAd_57
            have hF_63 : ∀ j : Nat, j ≠ (100 + 5 * n + 1) → j ≠ (100 + 5 * n + 2) → j ≠ (100 + 5 * n + 3) → j ≠ (100 + 5 * n + 4) → M_47 j = M_17 j := hF_56
            have hm_64 : M_47 0 = some (cStore ad_50 qa qs fw) := by rw [hF_63 0 (by omega) (by omega) (by omega) (by omega), hm_24]; simp only [cStore, hAd_62 1 (by omega) (by omega) (by omega) (by omega), hAd_62 3 (by omega) (by omega) (by omega) (by omega), hAd_62 8 (by omega) (by omega) (by omega) (by omega), hAd_62 12 (by omega) (by omega) (by omega) (by omega), hAd_62 16 (by omega) (by omega) (by omega) (by omega), hAd_62 22 (by omega) (by omega) (by omega) (by omega), hAd_62 23 (by omega) (by omega) (by omega) (by omega), hAd_62 qa (by omega) (by omega) (by omega) (by omega), hAd_62 qs (by omega) (by omega) (by omega) (by omega)]
            have hm_65 : M_47 12 = some (cEnds ad_50 12 s0) := by rw [hF_63 12 (by omega) (by omega) (by omega) (by omega), hm_25]; simp only [cEnds, hAd_62 13 (by omega) (by omega) (by omega) (by omega), hAd_62 14 (by omega) (by omega) (by omega) (by omega), hAd_62 15 (by omega) (by omega) (by omega) (by omega)]
            have hm_66 : M_47 13 = some (aI G 6 (nF r0)) := by rw [hF_63 13 (by omega) (by omega) (by omega) (by omega), hm_26]
            have hm_67 : M_47 14 = some (aI G 6 (oF th)) := by rw [hF_63 14 (by omega) (by omega) (by omega) (by omega), hm_27]
            have hm_68 : M_47 15 = some (aI G 6 (oF ol)) := by rw [hF_63 15 (by omega) (by omega) (by omega) (by omega), hm_28]
            have hm_69 : M_47 16 = some (cLines ad_50 ) := by rw [hF_63 16 (by omega) (by omega) (by omega) (by omega), hm_29]; simp only [cLines, hAd_62 17 (by omega) (by omega) (by omega) (by omega), hAd_62 19 (by omega) (by omega) (by omega) (by omega), hAd_62 20 (by omega) (by omega) (by omega) (by omega), hAd_62 21 (by omega) (by omega) (by omega) (by omega)]
            have hm_70 : M_47 3 = some (cLaws ad_50 ) := by rw [hF_63 3 (by omega) (by omega) (by omega) (by omega), hm_30]; simp only [cLaws, hAd_62 4 (by omega) (by omega) (by omega) (by omega), hAd_62 5 (by omega) (by omega) (by omega) (by omega), hAd_62 6 (by omega) (by omega) (by omega) (by omega), hAd_62 7 (by omega) (by omega) (by omega) (by omega)]
            have hm_71 : M_47 4 = some (aI G 36 (nF le)) := by rw [hF_63 4 (by omega) (by omega) (by omega) (by omega), hm_31]
            have hm_72 : M_47 5 = some (aI G 36 (nF mo)) := by rw [hF_63 5 (by omega) (by omega) (by omega) (by omega), hm_32]
            have hm_73 : M_47 6 = some (aI G 36 (nF al)) := by rw [hF_63 6 (by omega) (by omega) (by omega) (by omega), hm_33]
            have hm_74 : M_47 8 = some (cOnes ad_50 jn) := by rw [hF_63 8 (by omega) (by omega) (by omega) (by omega), hm_34]; simp only [cOnes, hAd_62 9 (by omega) (by omega) (by omega) (by omega), hAd_62 10 (by omega) (by omega) (by omega) (by omega), hAd_62 11 (by omega) (by omega) (by omega) (by omega)]
            have hm_75 : M_47 10 = some (aI G 40 (nF lst)) := by rw [hF_63 10 (by omega) (by omega) (by omega) (by omega), hm_35]
            have hm_76 : M_47 20 = some (aI G 120 ff) := by rw [hF_63 20 (by omega) (by omega) (by omega) (by omega), hm_36]
            have hm_77 : M_47 21 = some (aI G 120 lq) := by rw [hF_63 21 (by omega) (by omega) (by omega) (by omega), hm_37]
            have hm_78 : M_47 17 = some (cList ad_50 mcn ed n) := by rw [hF_63 17 (by omega) (by omega) (by omega) (by omega), hm_38]
            have hm_79 : M_47 18 = some (aO G cap lf) := by rw [hF_63 18 (by omega) (by omega) (by omega) (by omega), hm_39]
            have hm_80 : M_47 (100 + 5 * n) = some (.inr (3, [.int (nI 0), .int (nI 0), .int (nI 0), .null])) := by rw [hF_63 (100 + 5 * n) (by omega) (by omega) (by omega) (by omega), hm_23]
            clear hm_24 hm_25 hm_26 hm_27 hm_28 hm_29 hm_30 hm_31 hm_32 hm_33 hm_34 hm_35 hm_36 hm_37 hm_38 hm_39 hm_23
            have hF_81 : ∀ j : Nat, j ≠ (100 + 5 * n) → j ≠ (100 + 5 * n + 1) → j ≠ (100 + 5 * n + 2) → j ≠ (100 + 5 * n + 3) → j ≠ (100 + 5 * n + 4) → M_47 j = M j := fun j q0 q1 q2 q3 q4 => (hF_63 j q1 q2 q3 q4).trans (hF_44 j q0)
            clear hF_44 hF_56
            rw [hr_51]; show W _ _ _ _ _ _ _ _ _ _ _ _ _ _ _ (F0 m 86 ls (.ref (ad_50 (100 + 5 * n + 1)) :: [.int (nI g), .int (nI f), .int (nI y), .ref (ad_16 (100 + 5 * n)), .ref (ad_16 (100 + 5 * n))]))
            refine n_eqs (show ([.ref (ad_50 (100 + 5 * n + 1)), .int (nI g), .int (nI f), .int (nI y), .ref (ad_16 (100 + 5 * n)), .ref (ad_16 (100 + 5 * n))] : List Value) = [.ref (ad_50 (100 + 5 * n + 1)), .int (nI g), .int (nI f), .int (nI y), .ref (ad_50 (100 + 5 * n)), .ref (ad_50 (100 + 5 * n))] from by rw [hAd_62 (100 + 5 * n) (by omega) (by omega) (by omega) (by omega)]) ?_
            refine k_Nv (va_runI (As := [.int (nI y), .int (nI f), .int (nI g), .ref (ad_50 (100 + 5 * n + 1))]) (rest := [.ref (ad_50 (100 + 5 * n))]) ⟨hx, hb, hml, hown, hts⟩ (c_X2_init l G z ad_50 M_47 (k := 100 + 5 * n) (kd := y) (fm := nI f) (to := nI g) hm_80) (cwI 4 hts (gU (lwg_of t_655 rfl)) rfl rfl rfl sp_142 ml_142 in_142 rfl (by decide +kernel) ⟨Nat.le_of_ble_eq_true rfl, Nat.le_of_ble_eq_true rfl⟩) hI.preS rfl rfl hl.1 rfl (lv_room (Nat.le_of_ble_eq_true rfl)) dX9_put_86 ⟨Nat.le_of_ble_eq_true rfl, Nat.le_of_ble_eq_true rfl⟩) hI (fun M_84 H_85 locs_86 hp_83 hI => ?_)
            obtain ⟨hm_87, hF_88⟩ := hp_83
            have hm_89 : M_84 0 = some (cStore ad_50 qa qs fw) := by rw [hF_88 0 (by omega)]; exact hm_64
            have hm_90 : M_84 12 = some (cEnds ad_50 12 s0) := by rw [hF_88 12 (by omega)]; exact hm_65
            have hm_91 : M_84 13 = some (aI G 6 (nF r0)) := by rw [hF_88 13 (by omega)]; exact hm_66
            have hm_92 : M_84 14 = some (aI G 6 (oF th)) := by rw [hF_88 14 (by omega)]; exact hm_67
            have hm_93 : M_84 15 = some (aI G 6 (oF ol)) := by rw [hF_88 15 (by omega)]; exact hm_68
            have hm_94 : M_84 16 = some (cLines ad_50 ) := by rw [hF_88 16 (by omega)]; exact hm_69
            have hm_95 : M_84 3 = some (cLaws ad_50 ) := by rw [hF_88 3 (by omega)]; exact hm_70
            have hm_96 : M_84 4 = some (aI G 36 (nF le)) := by rw [hF_88 4 (by omega)]; exact hm_71
            have hm_97 : M_84 5 = some (aI G 36 (nF mo)) := by rw [hF_88 5 (by omega)]; exact hm_72
            have hm_98 : M_84 6 = some (aI G 36 (nF al)) := by rw [hF_88 6 (by omega)]; exact hm_73
            have hm_99 : M_84 8 = some (cOnes ad_50 jn) := by rw [hF_88 8 (by omega)]; exact hm_74
            have hm_100 : M_84 10 = some (aI G 40 (nF lst)) := by rw [hF_88 10 (by omega)]; exact hm_75
            have hm_101 : M_84 20 = some (aI G 120 ff) := by rw [hF_88 20 (by omega)]; exact hm_76
            have hm_102 : M_84 21 = some (aI G 120 lq) := by rw [hF_88 21 (by omega)]; exact hm_77
            have hm_103 : M_84 17 = some (cList ad_50 mcn ed n) := by rw [hF_88 17 (by omega)]; exact hm_78
            have hm_104 : M_84 18 = some (aO G cap lf) := by rw [hF_88 18 (by omega)]; exact hm_79
            have hm_105 : M_84 (100 + 5 * n + 1) = some (cEnds ad_50 (100 + 5 * n + 1) s0) := by rw [hF_88 (100 + 5 * n + 1) (by omega)]; exact hm_58
            have hm_106 : M_84 (100 + 5 * n + 2) = some (aI G 6 (nF (frs s0 r0))) := by rw [hF_88 (100 + 5 * n + 2) (by omega)]; exact hm_59
            have hm_107 : M_84 (100 + 5 * n + 3) = some (aI G 6 (oF (thE (frsE s0 e0)))) := by rw [hF_88 (100 + 5 * n + 3) (by omega)]; exact hm_60
            have hm_108 : M_84 (100 + 5 * n + 4) = some (aI G 6 (oF (olE (frsE s0 e0)))) := by rw [hF_88 (100 + 5 * n + 4) (by omega)]; exact hm_61
            have hF_109 : ∀ j : Nat, j ≠ (100 + 5 * n) → j ≠ (100 + 5 * n + 1) → j ≠ (100 + 5 * n + 2) → j ≠ (100 + 5 * n + 3) → j ≠ (100 + 5 * n + 4) → M_84 j = M j := fun j q0 q1 q2 q3 q4 => (hF_88 j q0).trans (hF_81 j q0 q1 q2 q3 q4)
            refine lv_astore (lv' := [(4, .ref (ad_50 (100 + 5 * n))), (0, .ref (ad 0)), (1, .int (nI y)), (2, .int (nI f)), (3, .int (nI g))]) hx hb dX9_put_89 hl (by decide) rfl (fun ls hl => ?_)
            refine lv_aload_n hx hb dX9_put_91 rfl (lv_at hl 1 rfl) ?_
            refine n_eqv (show Value.ref (ad 0) = .ref (ad_50 0) from by rw [hAd_62 0 (by omega) (by omega) (by omega) (by omega), hAd_22 0 (by omega)]) ?_
            refine h_get (C := RX9) (T := TX9) (N := 10) hx hb hts i_RX9 hown hI hm_89 rfl 3 (by decide) f_33 rfl rfl dX9_put_92 ?_
            refine k_Nv (va_runV (As := []) (rest := []) ⟨hx, hb, hml, hown, hts⟩ (c_X0_clear l G z ad_50 M_84 (sz := s0) hm_90) (cwV 0 hts (gV (lwg_of t_682 rfl) (lwg_of t_683 rfl) (lwg_of t_684 rfl) (lwg_of t_5 rfl) (lwg_of t_685 rfl)) rfl rfl rfl (by decide +kernel) ⟨Nat.le_of_ble_eq_true rfl, Nat.le_of_ble_eq_true rfl⟩) (hI.preV hm_90 rfl) rfl rfl hl.1 rfl (lv_room (Nat.le_of_ble_eq_true rfl)) dX9_put_95 ⟨Nat.le_of_ble_eq_true rfl, Nat.le_of_ble_eq_true rfl⟩) hI (fun M_112 H_113 locs_114 hp_111 hI => ?_)
            obtain ⟨hm_115, hF_116⟩ := hp_111
            have hm_117 : M_112 0 = some (cStore ad_50 qa qs fw) := by rw [hF_116 0 (by omega)]; exact hm_89
            have hm_118 : M_112 13 = some (aI G 6 (nF r0)) := by rw [hF_116 13 (by omega)]; exact hm_91
            have hm_119 : M_112 14 = some (aI G 6 (oF th)) := by rw [hF_116 14 (by omega)]; exact hm_92
            have hm_120 : M_112 15 = some (aI G 6 (oF ol)) := by rw [hF_116 15 (by omega)]; exact hm_93
            have hm_121 : M_112 16 = some (cLines ad_50 ) := by rw [hF_116 16 (by omega)]; exact hm_94
            have hm_122 : M_112 3 = some (cLaws ad_50 ) := by rw [hF_116 3 (by omega)]; exact hm_95
            have hm_123 : M_112 4 = some (aI G 36 (nF le)) := by rw [hF_116 4 (by omega)]; exact hm_96
            have hm_124 : M_112 5 = some (aI G 36 (nF mo)) := by rw [hF_116 5 (by omega)]; exact hm_97
            have hm_125 : M_112 6 = some (aI G 36 (nF al)) := by rw [hF_116 6 (by omega)]; exact hm_98
            have hm_126 : M_112 8 = some (cOnes ad_50 jn) := by rw [hF_116 8 (by omega)]; exact hm_99
            have hm_127 : M_112 10 = some (aI G 40 (nF lst)) := by rw [hF_116 10 (by omega)]; exact hm_100
            have hm_128 : M_112 20 = some (aI G 120 ff) := by rw [hF_116 20 (by omega)]; exact hm_101
            have hm_129 : M_112 21 = some (aI G 120 lq) := by rw [hF_116 21 (by omega)]; exact hm_102
            have hm_130 : M_112 17 = some (cList ad_50 mcn ed n) := by rw [hF_116 17 (by omega)]; exact hm_103
            have hm_131 : M_112 18 = some (aO G cap lf) := by rw [hF_116 18 (by omega)]; exact hm_104
            have hm_132 : M_112 (100 + 5 * n) = some (cLine ad_50 (100 + 5 * n) y (nI f) (nI g)) := by rw [hF_116 (100 + 5 * n) (by omega)]; exact hm_87
            have hm_133 : M_112 (100 + 5 * n + 1) = some (cEnds ad_50 (100 + 5 * n + 1) s0) := by rw [hF_116 (100 + 5 * n + 1) (by omega)]; exact hm_105
            have hm_134 : M_112 (100 + 5 * n + 2) = some (aI G 6 (nF (frs s0 r0))) := by rw [hF_116 (100 + 5 * n + 2) (by omega)]; exact hm_106
            have hm_135 : M_112 (100 + 5 * n + 3) = some (aI G 6 (oF (thE (frsE s0 e0)))) := by rw [hF_116 (100 + 5 * n + 3) (by omega)]; exact hm_107
            have hm_136 : M_112 (100 + 5 * n + 4) = some (aI G 6 (oF (olE (frsE s0 e0)))) := by rw [hF_116 (100 + 5 * n + 4) (by omega)]; exact hm_108
            have hF_137 : ∀ j : Nat, j ≠ (100 + 5 * n) → j ≠ (100 + 5 * n + 1) → j ≠ (100 + 5 * n + 2) → j ≠ (100 + 5 * n + 3) → j ≠ (100 + 5 * n + 4) → j ≠ 12 → M_112 j = M j := fun j q0 q1 q2 q3 q4 q5 => (hF_116 j q5).trans (hF_109 j q0 q1 q2 q3 q4)
            have hL9 : LSm G ad_50 M_112 n kd fm to sz rl en := hL.mv (fun j hj => hF_137 j (by omega) (by omega) (by omega) (by omega) (by omega) (by omega)) (fun j hj => by rw [hAd_62 j (by omega) (by omega) (by omega) (by omega), hAd_22 j (by omega)])
            refine lv_aload_n hx hb dX9_put_98 rfl (lv_at hl 1 rfl) ?_
            refine n_eqv (show Value.ref (ad 0) = .ref (ad_50 0) from by rw [hAd_62 0 (by omega) (by omega) (by omega) (by omega), hAd_22 0 (by omega)]) ?_
            refine lv_aload hx hb dX9_put_99 (lv_at hl 0 rfl) ?_
            refine k_Ni (va_runV (As := [.ref (ad_50 (100 + 5 * n))]) (rest := []) ⟨hx, hb, hml, hown, hts⟩ (c_X9_whyRefused l G z ad_50 M_112 (n := n) (kd := kd) (fm := fm) (to := to) (sz := sz) (rl := rl) (en := en) (qa := qa) (qs := qs) (fw := fw) (k := 100 + 5 * n) (q := y) (f0 := (nI f)) (t0 := (nI g)) (s0 := s0) (r0 := frs s0 r0) (e0 := frsE s0 e0) (jn := jn) (lst := lst) (le := le) (mo := mo) (al := al) (ff := ff) (lf := lq) hL9 hm_117 hm_132 hm_133 hm_134 hm_135 hm_136 hm_122 hm_123 hm_124 hm_125 hm_126 hm_127 hm_128 hm_129 hw hs0 (fun j hj => by rw [frs_is hj]; exact hr0 j hj) (fun j hj => by rw [frsE_is hj]; exact he0 j hj) hlst hy (by omega) hle hmo hal) (cwV 1 hts (gV (lwg_of t_686 rfl) (lwg_of t_688 rfl) (lwg_of ts_8 rfl) (lwg_of t_1 rfl) (lwg_of t_689 rfl)) rfl rfl rfl (by decide +kernel) ⟨Nat.le_of_ble_eq_true rfl, Nat.le_of_ble_eq_true rfl⟩) (hI.preV hm_117 rfl) rfl rfl hl.1 rfl (lv_room (Nat.le_of_ble_eq_true rfl)) dX9_put_101 ⟨Nat.le_of_ble_eq_true rfl, Nat.le_of_ble_eq_true rfl⟩) hI (fun r_138 M_140 H_141 locs_142 hp_139 hI => ?_)
            obtain ⟨ff2_147, lf2_148, hm_143, hm_144, hF_145, hP_146⟩ := hp_139
            have hm_149 : M_140 0 = some (cStore ad_50 qa qs fw) := by rw [hF_145 0 (by omega) (by omega)]; exact hm_117
            have hm_150 : M_140 12 = some (cEnds ad_50 12 0) := by rw [hF_145 12 (by omega) (by omega)]; exact hm_115
            have hm_151 : M_140 13 = some (aI G 6 (nF r0)) := by rw [hF_145 13 (by omega) (by omega)]; exact hm_118
            have hm_152 : M_140 14 = some (aI G 6 (oF th)) := by rw [hF_145 14 (by omega) (by omega)]; exact hm_119
            have hm_153 : M_140 15 = some (aI G 6 (oF ol)) := by rw [hF_145 15 (by omega) (by omega)]; exact hm_120
            have hm_154 : M_140 16 = some (cLines ad_50 ) := by rw [hF_145 16 (by omega) (by omega)]; exact hm_121
            have hm_155 : M_140 3 = some (cLaws ad_50 ) := by rw [hF_145 3 (by omega) (by omega)]; exact hm_122
            have hm_156 : M_140 4 = some (aI G 36 (nF le)) := by rw [hF_145 4 (by omega) (by omega)]; exact hm_123
            have hm_157 : M_140 5 = some (aI G 36 (nF mo)) := by rw [hF_145 5 (by omega) (by omega)]; exact hm_124
            have hm_158 : M_140 6 = some (aI G 36 (nF al)) := by rw [hF_145 6 (by omega) (by omega)]; exact hm_125
            have hm_159 : M_140 8 = some (cOnes ad_50 jn) := by rw [hF_145 8 (by omega) (by omega)]; exact hm_126
            have hm_160 : M_140 10 = some (aI G 40 (nF lst)) := by rw [hF_145 10 (by omega) (by omega)]; exact hm_127
            have hm_161 : M_140 17 = some (cList ad_50 mcn ed n) := by rw [hF_145 17 (by omega) (by omega)]; exact hm_130
            have hm_162 : M_140 18 = some (aO G cap lf) := by rw [hF_145 18 (by omega) (by omega)]; exact hm_131
            have hm_163 : M_140 (100 + 5 * n) = some (cLine ad_50 (100 + 5 * n) y (nI f) (nI g)) := by rw [hF_145 (100 + 5 * n) (by omega) (by omega)]; exact hm_132
            have hm_164 : M_140 (100 + 5 * n + 1) = some (cEnds ad_50 (100 + 5 * n + 1) s0) := by rw [hF_145 (100 + 5 * n + 1) (by omega) (by omega)]; exact hm_133
            have hm_165 : M_140 (100 + 5 * n + 2) = some (aI G 6 (nF (frs s0 r0))) := by rw [hF_145 (100 + 5 * n + 2) (by omega) (by omega)]; exact hm_134
            have hm_166 : M_140 (100 + 5 * n + 3) = some (aI G 6 (oF (thE (frsE s0 e0)))) := by rw [hF_145 (100 + 5 * n + 3) (by omega) (by omega)]; exact hm_135
            have hm_167 : M_140 (100 + 5 * n + 4) = some (aI G 6 (oF (olE (frsE s0 e0)))) := by rw [hF_145 (100 + 5 * n + 4) (by omega) (by omega)]; exact hm_136
            have hL_168 : LSm G ad_50 M_140 n kd fm to sz rl en := hL9.keep (fun j hj => hF_145 j (by omega) (by omega))
            have hF_169 : ∀ j : Nat, j ≠ (100 + 5 * n) → j ≠ (100 + 5 * n + 1) → j ≠ (100 + 5 * n + 2) → j ≠ (100 + 5 * n + 3) → j ≠ (100 + 5 * n + 4) → j ≠ 12 → j ≠ 20 → j ≠ 21 → M_140 j = M j := fun j q0 q1 q2 q3 q4 q5 q6 q7 => (hF_145 j q6 q7).trans (hF_137 j q0 q1 q2 q3 q4 q5)
            have hP9 := hP_146
            rw [alw_cg (r0 := frs s0 r0) (r1 := r0) (fun j hj => frs_is hj), brs_cg (e0 := frsE s0 e0) (e1 := e0) (fun j hj => frsE_is hj), crw_cg (r0 := frs s0 r0) (r1 := r0) (e0 := frsE s0 e0) (e1 := e0) (fun j hj => frs_is hj) (fun j hj => frsE_is hj)] at hP9
            have hr9 : r_138 = nI 0 := by
              rcases hP9 with h | h | h | h
              · exact absurd hok.1 h.2
              · exact absurd hok.2.1 h.2.2
              · exact absurd h.2.2.2 hok.2.2
              · exact h.1
            refine n_eq hr9 ?_
            refine lv_istore (lv' := [(5, .int (nI 0)), (4, .ref (ad_50 (100 + 5 * n))), (0, .ref (ad 0)), (1, .int (nI y)), (2, .int (nI f)), (3, .int (nI g))]) hx hb dX9_put_104 hl (by decide) rfl (fun ls hl => ?_)
            refine lv_iload hx hb dX9_put_106 (lv_at hl 0 rfl) ?_
            refine lv_if_ne (tgt := 123) hx hb dX9_put_108 (by decide) (fun c_170 => ?_) (fun c_170 => ?_)
            · -- 108: nI 0 ne
              exact absurd (by decide) c_170
            · -- 108: nI 0 eq
              refine lv_aload_n hx hb dX9_put_111 rfl (lv_at hl 2 rfl) ?_
              refine n_eqv (show Value.ref (ad 0) = .ref (ad_50 0) from by rw [hAd_62 0 (by omega) (by omega) (by omega) (by omega), hAd_22 0 (by omega)]) ?_
              refine h_get (C := RX9) (T := TX9) (N := 10) hx hb hts i_RX9 hown hI hm_149 rfl 4 (by decide) f_40 rfl rfl dX9_put_112 ?_
              refine lv_aload hx hb dX9_put_115 (lv_at hl 1 rfl) ?_
              refine k_Ni (va_runV (As := [.ref (ad_50 (100 + 5 * n))]) (rest := []) ⟨hx, hb, hml, hown, hts⟩ (c_X3_add_b l G z ad_50 M_140 (mcn := mcn) (ed := ed) (cap := cap) (n := n) (lf := lf) (k := 100 + 5 * n) (kd := y) (fm := (nI f)) (to := (nI g)) hm_154 hm_161 hm_162 hm_163 (by omega) (by rw [hed]; exact ((hAd_62 18 (by omega) (by omega) (by omega) (by omega)).trans (hAd_22 18 (by omega))).symm) (by omega)) (cwV 1 hts (gV (lwg_of t_749 rfl) (lwg_of t_750 rfl) (lwg_of t_751 rfl) (lwg_of t_6 rfl) (lwg_of t_752 rfl)) rfl rfl rfl (by decide +kernel) ⟨Nat.le_of_ble_eq_true rfl, Nat.le_of_ble_eq_true rfl⟩) (hI.preV hm_154 rfl) rfl rfl hl.1 rfl (lv_room (Nat.le_of_ble_eq_true rfl)) dX9_put_117 ⟨Nat.le_of_ble_eq_true rfl, Nat.le_of_ble_eq_true rfl⟩) hI (fun r_171 M_173 H_174 locs_175 hp_172 hI => ?_)
              obtain ⟨hr_176, hm_177, hm_178, hF_179⟩ := hp_172
              have hm_180 : M_173 0 = some (cStore ad_50 qa qs fw) := by rw [hF_179 0 (by omega) (by omega)]; exact hm_149
              have hm_181 : M_173 12 = some (cEnds ad_50 12 0) := by rw [hF_179 12 (by omega) (by omega)]; exact hm_150
              have hm_182 : M_173 13 = some (aI G 6 (nF r0)) := by rw [hF_179 13 (by omega) (by omega)]; exact hm_151
              have hm_183 : M_173 14 = some (aI G 6 (oF th)) := by rw [hF_179 14 (by omega) (by omega)]; exact hm_152
              have hm_184 : M_173 15 = some (aI G 6 (oF ol)) := by rw [hF_179 15 (by omega) (by omega)]; exact hm_153
              have hm_185 : M_173 16 = some (cLines ad_50 ) := by rw [hF_179 16 (by omega) (by omega)]; exact hm_154
              have hm_186 : M_173 3 = some (cLaws ad_50 ) := by rw [hF_179 3 (by omega) (by omega)]; exact hm_155
              have hm_187 : M_173 4 = some (aI G 36 (nF le)) := by rw [hF_179 4 (by omega) (by omega)]; exact hm_156
              have hm_188 : M_173 5 = some (aI G 36 (nF mo)) := by rw [hF_179 5 (by omega) (by omega)]; exact hm_157
              have hm_189 : M_173 6 = some (aI G 36 (nF al)) := by rw [hF_179 6 (by omega) (by omega)]; exact hm_158
              have hm_190 : M_173 8 = some (cOnes ad_50 jn) := by rw [hF_179 8 (by omega) (by omega)]; exact hm_159
              have hm_191 : M_173 10 = some (aI G 40 (nF lst)) := by rw [hF_179 10 (by omega) (by omega)]; exact hm_160
              have hm_192 : M_173 20 = some (aI G 120 ff2_147) := by rw [hF_179 20 (by omega) (by omega)]; exact hm_143
              have hm_193 : M_173 21 = some (aI G 120 lf2_148) := by rw [hF_179 21 (by omega) (by omega)]; exact hm_144
              have hm_194 : M_173 (100 + 5 * n) = some (cLine ad_50 (100 + 5 * n) y (nI f) (nI g)) := by rw [hF_179 (100 + 5 * n) (by omega) (by omega)]; exact hm_163
              have hm_195 : M_173 (100 + 5 * n + 1) = some (cEnds ad_50 (100 + 5 * n + 1) s0) := by rw [hF_179 (100 + 5 * n + 1) (by omega) (by omega)]; exact hm_164
              have hm_196 : M_173 (100 + 5 * n + 2) = some (aI G 6 (nF (frs s0 r0))) := by rw [hF_179 (100 + 5 * n + 2) (by omega) (by omega)]; exact hm_165
              have hm_197 : M_173 (100 + 5 * n + 3) = some (aI G 6 (oF (thE (frsE s0 e0)))) := by rw [hF_179 (100 + 5 * n + 3) (by omega) (by omega)]; exact hm_166
              have hm_198 : M_173 (100 + 5 * n + 4) = some (aI G 6 (oF (olE (frsE s0 e0)))) := by rw [hF_179 (100 + 5 * n + 4) (by omega) (by omega)]; exact hm_167
              have hF_199 : ∀ j : Nat, j ≠ (100 + 5 * n) → j ≠ (100 + 5 * n + 1) → j ≠ (100 + 5 * n + 2) → j ≠ (100 + 5 * n + 3) → j ≠ (100 + 5 * n + 4) → j ≠ 12 → j ≠ 20 → j ≠ 21 → j ≠ 17 → j ≠ 18 → M_173 j = M j := fun j q0 q1 q2 q3 q4 q5 q6 q7 q8 q9 => (hF_179 j q8 q9).trans (hF_169 j q0 q1 q2 q3 q4 q5 q6 q7)
              rw [hr_176]
              refine lv_goto (tgt := 126) hx hb dX9_put_120 (by decide) ?_
              exact e_Ai hx hb hr rfl hlocks hI ⟨ff2_147, lf2_148, rfl, hm_181, hm_192, hm_193, hm_194, hm_195, hm_196, hm_197, hm_198, hm_177, hm_178, (fun j q0 q1 q2 q3 q4 q5 q6 q7 q8 q9 => hF_199 j q3 q4 q5 q6 q7 q0 q1 q2 q8 q9), (fun j q0 q1 q2 q3 q4 => (by show ad_50 j = ad j; rw [hAd_62 j q1 q2 q3 q4, hAd_22 j q0]))⟩ dX9_put_126
          · -- 59: nI n ge
            have c_15 : 120 ≤ n := by have h := mt (nI_ltI (a := n) (b := 120) (by omega) (by omega)).mpr c_15; omega
            omega
        · -- 37: nI s0 eq
          have c_12 : s0 = 0 := (nI_eq (a := s0) (b := 0) (by omega) (by omega)).mp (c_12)
          omega
      · -- 17: nI g gt
        have c_9 : 1000 < g := by have h := mt (nI_leI (a := g) (b := 1000) (by omega) (by omega)).mpr c_9; omega
        omega

/-- X9_put -/
abbrev rm_c_X9_putk_1 : Room := { frames := 8, cells := 6, slots := 226, locals := 212 }
set_option maxHeartbeats 4000000 in
set_option maxRecDepth 100000 in
theorem c_X9_putk_1 (l : Launch) (G : GG) (z : Nat) (ad : Nat → Nat) (M : Mem) {n : Nat} {kd : Nat → Nat} {fm : Nat → Int32} {to : Nat → Int32} {sz : Nat → Nat} {rl : Nat → Nat → Nat} {en : Nat → Nat → Nat} {qa : Nat} {qs : Nat} {fw : Int32} {s0 : Nat} {r0 : Nat → Nat} {th : Nat → Option Nat} {ol : Nat → Option Nat} {e0 : Nat → Nat} {le : Nat → Nat} {mo : Nat → Nat} {al : Nat → Nat} {jn : Nat} {lst : Nat → Nat} {ff : Nat → Int32} {lq : Nat → Int32} {y : Nat} {f : Nat} {g : Nat} {mcn : Int32} {ed : Nat} {lf : Nat → Option Nat} (h0 : M 0 = some (cStore ad qa qs fw)) (h12 : M 12 = some (cEnds ad 12 s0)) (h13 : M 13 = some (aI G 6 (nF r0))) (h14 : M 14 = some (aI G 6 (oF th))) (h15 : M 15 = some (aI G 6 (oF ol))) (h16 : M 16 = some (cLines ad )) (h3 : M 3 = some (cLaws ad )) (h4 : M 4 = some (aI G 36 (nF le))) (h5 : M 5 = some (aI G 36 (nF mo))) (h6 : M 6 = some (aI G 36 (nF al))) (h8 : M 8 = some (cOnes ad jn)) (h10 : M 10 = some (aI G 40 (nF lst))) (h20 : M 20 = some (aI G 120 ff)) (h21 : M 21 = some (aI G 120 lq)) (h17 : M 17 = some (cList ad mcn ed n)) (h18 : M 18 = some (aO G n lf)) (hqa : 29 < qa ∧ qa < 51) (hqs : 29 < qs ∧ qs < 51) (hL : LSm G ad M n kd fm to sz rl en) (hw : LSw n kd sz rl en) (hs1 : 0 < s0) (hs0 : s0 ≤ 6) (hn1 : n < 120) (hr0 : ∀ j, j < s0 → r0 j < 6) (he0 : ∀ j, j < s0 → e0 j < 40 + n) (hth : ∀ j, j < s0 → th j = thE e0 j) (hol : ∀ j, j < s0 → ol j = olE e0 j) (hlst : ∀ u, u < 40 → lst u < 40) (hy : y < 6) (hfg : f ≤ g ∧ g ≤ 1000) (hle : ∀ j, j < 36 → le j < 100) (hmo : ∀ j, j < 36 → mo j < 100) (hal : ∀ j, j < 36 → al j ≤ 100) (hok : alw le mo r0 s0 y 6 ∧ brs fm to e0 (nI f) (nI g) s0 ∧ ¬ crw n kd fm to sz rl en lst al y (nI f) (nI g) r0 e0 s0) (hed : ed = ad 18) (hn : 0 < n) (hlf : ∀ i, i < n → lf i = some (ad (100 + 5 * i))) (fre0 : M (100 + 5 * n) = none) (fre1 : M (100 + 5 * n + 1) = none) (fre2 : M (100 + 5 * n + 2) = none) (fre3 : M (100 + 5 * n + 3) = none) (fre4 : M (100 + 5 * n + 4) = none) (fre5 : M 29 = none) : Met l yX9_put wsX9_put rm_c_X9_putk_1 (Pr G z ad M [.ref (ad 0), .int (nI y), .int (nI f), .int (nI g)]) (Ai G z (fun (r : Int32) (u : (Nat → Nat) × Mem) => ∃ ff2 : Nat → Int32, ∃ lq2 : Nat → Int32, r = nI n ∧ u.2 12 = some (cEnds u.1 12 0) ∧ u.2 20 = some (aI G 120 ff2) ∧ u.2 21 = some (aI G 120 lq2) ∧ u.2 (100 + 5 * n) = some (cLine u.1 (100 + 5 * n) y (nI f) (nI g)) ∧ u.2 (100 + 5 * n + 1) = some (cEnds u.1 (100 + 5 * n + 1) s0) ∧ u.2 (100 + 5 * n + 2) = some (aI G 6 (nF (frs s0 r0))) ∧ u.2 (100 + 5 * n + 3) = some (aI G 6 (oF (thE (frsE s0 e0)))) ∧ u.2 (100 + 5 * n + 4) = some (aI G 6 (oF (olE (frsE s0 e0)))) ∧ u.2 17 = some (cList u.1 (mcn + nI 1) (u.1 18) (n + 1)) ∧ u.2 18 = some (aO G (n + max 1 (n / 2)) (va_up (va_cpy lf (fun _ => none) 0 0 n) n (some (u.1 (100 + 5 * n))))) ∧ (∀ j : Nat, j ≠ 12 → j ≠ 20 → j ≠ 21 → j ≠ (100 + 5 * n) → j ≠ (100 + 5 * n + 1) → j ≠ (100 + 5 * n + 2) → j ≠ (100 + 5 * n + 3) → j ≠ (100 + 5 * n + 4) → j ≠ 17 → j ≠ 18 → u.2 j = M j) ∧ (∀ j : Nat, j ≠ (100 + 5 * n) → j ≠ (100 + 5 * n + 1) → j ≠ (100 + 5 * n + 2) → j ≠ (100 + 5 * n + 3) → j ≠ (100 + 5 * n + 4) → j ≠ 18 → u.1 j = ad j))) 6 226 (fr z) := by
  refine Met.ofW (cc := cX9_put) (maxL := 6) (ret := (some .int)) (by decide) rfl ?_
  intro p e s m args below meth c s₁ B hml hv
  obtain ⟨rfl, hv⟩ := hv
  have hI := Iv.entry hv
  have hx := B.exec
  have hb := B.bytes
  have hr := B.returns
  have hts := atoms_spec (ws := wsX9_put) B.pre
  have hown : s.vm.findClass RX9 = some m.cls := findClass_of_methodNamed B.named
  have hlocks := B.notSynchronized
  have i_RX9 : ∀ w ∈ u_ws RX9 TX9 10, w ∈ wsX9_put := fun w h => List.mem_cons_of_mem _ (iu_X9 w h)
  have f_33 := hts _ (List.mem_cons_of_mem _ (lwg_of t_242 rfl))
  have f_40 := hts _ (List.mem_cons_of_mem _ (lwg_of t_243 rfl))
  have nw_i136 := hts _ (List.mem_cons_of_mem _ (lwg_of t_643 rfl))
  have nw_n136 := hts _ (List.mem_cons_of_mem _ (lwg_of t_21 rfl))
  have i_RX2 : ∀ w ∈ u_ws RX2 TX2 4, w ∈ wsX9_put := fun w h => List.mem_cons_of_mem _ (iu_X2 w h)
  have nw_c136 := hts _ (List.mem_cons_of_mem _ (lwg_of t_642 rfl))
  have sp_142 := hts _ (List.mem_cons_of_mem _ (lwg_of t_21 rfl))
  have in_142 := hts _ (List.mem_cons_of_mem _ (lwg_of t_654 rfl))
  have ml_142 := hts _ (List.mem_cons_of_mem _ (lwg_of t_653 rfl))
  have hl := lv_entry ([.ref (ad 0), .int (nI y), .int (nI f), .int (nI g)]) (n := 6) (Nat.le_of_ble_eq_true rfl)
  rw [lg_entry_eq]
  generalize (lg_sl ([.ref (ad 0), .int (nI y), .int (nI f), .int (nI g)]) ++ List.replicate (6 - (lg_sl ([.ref (ad 0), .int (nI y), .int (nI f), .int (nI g)])).length) Slot.unset).toArray = ls at hl ⊢
  have hl : lv_has ls 6 [(0, .ref (ad 0)), (1, .int (nI y)), (2, .int (nI f)), (3, .int (nI g))] := hl
  have hw1 := hw.1
  refine lv_iload_n hx hb dX9_put_0 rfl (lv_at hl 1 rfl) ?_
  refine k_Nv (va_runS (As := [.int (nI y)]) (rest := []) ⟨hx, hb, hml, hown, hts⟩ (c_X9_checkKind l G z ad M (t := y) hy) (va_cwS 1 hts (gS (lwg_of t_477 rfl) (lwg_of t_478 rfl) (lwg_of t_1 rfl) (lwg_of t_479 rfl)) rfl rfl rfl (by decide +kernel) ⟨Nat.le_of_ble_eq_true rfl, Nat.le_of_ble_eq_true rfl⟩) hI.preS rfl rfl hl.1 rfl (lv_room (Nat.le_of_ble_eq_true rfl)) dX9_put_1 ⟨Nat.le_of_ble_eq_true rfl, Nat.le_of_ble_eq_true rfl⟩) hI (fun M_3 H_4 locs_5 hp_2 hI => ?_)
  have eM_6 : M = M_3 := (funext hp_2).symm
  subst eM_6
  refine lv_iload_n hx hb dX9_put_4 rfl (lv_at hl 2 rfl) ?_
  refine lv_if_lt (tgt := 20) hx hb dX9_put_5 (by decide) (fun c_7 => ?_) (fun c_7 => ?_)
  · -- 5: nI f lt
    have c_7 : f < 0 := (nI_ltI (a := f) (b := 0) (by omega) (by omega)).mp (c_7)
    omega
  · -- 5: nI f ge
    have c_7 : 0 ≤ f := by have h := mt (nI_ltI (a := f) (b := 0) (by omega) (by omega)).mpr c_7; omega
    refine lv_iload_n hx hb dX9_put_8 rfl (lv_at hl 2 rfl) ?_
    refine lv_iload_n hx hb dX9_put_9 rfl (lv_at hl 3 rfl) ?_
    refine lv_icmp_gt (tgt := 20) hx hb dX9_put_10 (by decide) (fun c_8 => ?_) (fun c_8 => ?_)
    · -- 10: nI f gt
      have c_8 : g < f := (nI_ltI (a := g) (b := f) (by omega) (by omega)).mp (c_8)
      omega
    · -- 10: nI f le
      have c_8 : f ≤ g := by have h := mt (nI_ltI (a := g) (b := f) (by omega) (by omega)).mpr c_8; omega
      refine lv_iload_n hx hb dX9_put_13 rfl (lv_at hl 3 rfl) ?_
      refine lv_sipush (v := nI 1000) hx hb dX9_put_14 (by decide) ?_
      refine lv_icmp_le (tgt := 30) hx hb dX9_put_17 (by decide) (fun c_9 => ?_) (fun c_9 => ?_)
      · -- 17: nI g le
        have c_9 : g ≤ 1000 := (nI_leI (a := g) (b := 1000) (by omega) (by omega)).mp (c_9)
        refine lv_aload_n hx hb dX9_put_30 rfl (lv_at hl 0 rfl) ?_
        refine h_get (C := RX9) (T := TX9) (N := 10) hx hb hts i_RX9 hown hI h0 rfl 3 (by decide) f_33 rfl rfl dX9_put_31 ?_
        refine k_Ri (va_runV (As := []) (rest := []) ⟨hx, hb, hml, hown, hts⟩ (c_X0_size l G z ad M (k := 12) (sz := s0) h12) (cwV 0 hts (gV (lwg_of t_450 rfl) (lwg_of t_451 rfl) (lwg_of t_452 rfl) (lwg_of t_5 rfl) (lwg_of t_453 rfl)) rfl rfl rfl (by decide +kernel) ⟨Nat.le_of_ble_eq_true rfl, Nat.le_of_ble_eq_true rfl⟩) (hI.preV h12 rfl) rfl rfl hl.1 rfl (lv_room (Nat.le_of_ble_eq_true rfl)) dX9_put_34 ⟨Nat.le_of_ble_eq_true rfl, Nat.le_of_ble_eq_true rfl⟩) (fun _ h => h) (fun r_10 hp_11 => ?_)
        rw [hp_11]
        refine lv_if_ne (tgt := 50) hx hb dX9_put_37 (by decide) (fun c_12 => ?_) (fun c_12 => ?_)
        · -- 37: nI s0 ne
          have c_12 : s0 ≠ 0 := by have h := mt (nI_eq (a := s0) (b := 0) (by omega) (by omega)).mpr c_12; omega
          refine lv_aload_n hx hb dX9_put_50 rfl (lv_at hl 0 rfl) ?_
          refine h_get (C := RX9) (T := TX9) (N := 10) hx hb hts i_RX9 hown hI h0 rfl 4 (by decide) f_40 rfl rfl dX9_put_51 ?_
          refine k_Ri (va_runV (As := []) (rest := []) ⟨hx, hb, hml, hown, hts⟩ (c_X3_size l G z ad M (n := n) (kd := kd) (fm := fm) (to := to) (sz := sz) (rl := rl) (en := en) hL) (cwV 0 hts (gV (lwg_of t_449 rfl) (lwg_of t_325 rfl) (lwg_of t_326 rfl) (lwg_of t_6 rfl) (lwg_of t_327 rfl)) rfl rfl rfl (by decide +kernel) ⟨Nat.le_of_ble_eq_true rfl, Nat.le_of_ble_eq_true rfl⟩) (hI.preV h16 rfl) rfl rfl hl.1 rfl (lv_room (Nat.le_of_ble_eq_true rfl)) dX9_put_54 ⟨Nat.le_of_ble_eq_true rfl, Nat.le_of_ble_eq_true rfl⟩) (fun _ h => h) (fun r_13 hp_14 => ?_)
          rw [hp_14]
          refine lv_bipush (v := nI 120) hx hb dX9_put_57 (by decide) ?_
          refine lv_icmp_lt (tgt := 72) hx hb dX9_put_59 (by decide) (fun c_15 => ?_) (fun c_15 => ?_)
          · -- 59: nI n lt
            have c_15 : n < 120 := (nI_ltI (a := n) (b := 120) (by omega) (by omega)).mp (c_15)
            refine h_new (C := RX2) (T := TX2) (N := 4) (ci := 3) (fs := [.int (nI 0), .int (nI 0), .int (nI 0), .null]) hx hb hts i_RX2 tyX2 tyX2_ok hown nw_c136 nw_i136 nw_n136 hI rfl (fun j hj => match j, hj with | 0, _ => rfl | 1, _ => rfl | 2, _ => rfl | 3, _ => rfl | n + 4, h => absurd h (by omega)) (Nat.le_of_ble_eq_true rfl) (Nat.le_of_ble_eq_true rfl) dX9_put_72 (100 + 5 * n) fre0 (fun ad_16 M_17 H_18 hA_19 eM_20 hI => ?_)
            have hAd_22 : ∀ j : Nat, j ≠ (100 + 5 * n) → ad_16 j = ad j := fun j hj => by obtain ⟨q, e⟩ := hA_19; rw [e]; exact va_up_ne _ _ hj
            have hm_23 : M_17 (100 + 5 * n) = some (.inr (3, [.int (nI 0), .int (nI 0), .int (nI 0), .null])) := by rw [eM_20]; exact va_up_self _ _ _
            have hm_24 : M_17 0 = some (cStore ad_16 qa qs fw) := by rw [eM_20, va_up_ne _ _ (by omega), h0]; simp only [cStore, hAd_22 1 (by omega), hAd_22 3 (by omega), hAd_22 8 (by omega), hAd_22 12 (by omega), hAd_22 16 (by omega), hAd_22 22 (by omega), hAd_22 23 (by omega), hAd_22 qa (by omega), hAd_22 qs (by omega)]
            have hm_25 : M_17 12 = some (cEnds ad_16 12 s0) := by rw [eM_20, va_up_ne _ _ (by omega), h12]; simp only [cEnds, hAd_22 13 (by omega), hAd_22 14 (by omega), hAd_22 15 (by omega)]
            have hm_26 : M_17 13 = some (aI G 6 (nF r0)) := by rw [eM_20, va_up_ne _ _ (by omega), h13]
            have hm_27 : M_17 14 = some (aI G 6 (oF th)) := by rw [eM_20, va_up_ne _ _ (by omega), h14]
            have hm_28 : M_17 15 = some (aI G 6 (oF ol)) := by rw [eM_20, va_up_ne _ _ (by omega), h15]
            have hm_29 : M_17 16 = some (cLines ad_16 ) := by rw [eM_20, va_up_ne _ _ (by omega), h16]; simp only [cLines, hAd_22 17 (by omega), hAd_22 19 (by omega), hAd_22 20 (by omega), hAd_22 21 (by omega)]
            have hm_30 : M_17 3 = some (cLaws ad_16 ) := by rw [eM_20, va_up_ne _ _ (by omega), h3]; simp only [cLaws, hAd_22 4 (by omega), hAd_22 5 (by omega), hAd_22 6 (by omega), hAd_22 7 (by omega)]
            have hm_31 : M_17 4 = some (aI G 36 (nF le)) := by rw [eM_20, va_up_ne _ _ (by omega), h4]
            have hm_32 : M_17 5 = some (aI G 36 (nF mo)) := by rw [eM_20, va_up_ne _ _ (by omega), h5]
            have hm_33 : M_17 6 = some (aI G 36 (nF al)) := by rw [eM_20, va_up_ne _ _ (by omega), h6]
            have hm_34 : M_17 8 = some (cOnes ad_16 jn) := by rw [eM_20, va_up_ne _ _ (by omega), h8]; simp only [cOnes, hAd_22 9 (by omega), hAd_22 10 (by omega), hAd_22 11 (by omega)]
            have hm_35 : M_17 10 = some (aI G 40 (nF lst)) := by rw [eM_20, va_up_ne _ _ (by omega), h10]
            have hm_36 : M_17 20 = some (aI G 120 ff) := by rw [eM_20, va_up_ne _ _ (by omega), h20]
            have hm_37 : M_17 21 = some (aI G 120 lq) := by rw [eM_20, va_up_ne _ _ (by omega), h21]
            have hm_38 : M_17 17 = some (cList ad_16 mcn ed n) := by rw [eM_20, va_up_ne _ _ (by omega), h17]
            have hm_39 : M_17 18 = some (aO G n lf) := by rw [eM_20, va_up_ne _ _ (by omega), h18]
            have fr_40 : M_17 (100 + 5 * n + 1) = none := by rw [eM_20, va_up_ne _ _ (by omega)]; exact fre1
            have fr_41 : M_17 (100 + 5 * n + 2) = none := by rw [eM_20, va_up_ne _ _ (by omega)]; exact fre2
            have fr_42 : M_17 (100 + 5 * n + 3) = none := by rw [eM_20, va_up_ne _ _ (by omega)]; exact fre3
            have fr_43 : M_17 (100 + 5 * n + 4) = none := by rw [eM_20, va_up_ne _ _ (by omega)]; exact fre4
            have fr_44 : M_17 29 = none := by rw [eM_20, va_up_ne _ _ (by omega)]; exact fre5
            have hF_45 : ∀ j : Nat, j ≠ (100 + 5 * n) → M_17 j = M j := fun j q0 => by rw [eM_20, va_up_ne _ _ q0]
            refine lv_dup hx hb dX9_put_75 rfl ?_
            refine lv_iload_n hx hb dX9_put_76 rfl (lv_at hl 1 rfl) ?_
            refine lv_iload_n hx hb dX9_put_77 rfl (lv_at hl 2 rfl) ?_
            refine lv_iload_n hx hb dX9_put_78 rfl (lv_at hl 3 rfl) ?_
            refine lv_aload_n hx hb dX9_put_79 rfl (lv_at hl 0 rfl) ?_
            refine n_eqv (show Value.ref (ad 0) = .ref (ad_16 0) from by rw [hAd_22 0 (by omega)]) ?_
            refine h_get (C := RX9) (T := TX9) (N := 10) hx hb hts i_RX9 hown hI hm_24 rfl 3 (by decide) f_33 rfl rfl dX9_put_80 ?_
            refine k_Aq (va_runV (As := []) (rest := [.int (nI g), .int (nI f), .int (nI y), .ref (ad_16 (100 + 5 * n)), .ref (ad_16 (100 + 5 * n))]) ⟨hx, hb, hml, hown, hts⟩ (c_X0_copy l G z ad_16 M_17 (k := 100 + 5 * n + 1) (sz := s0) (rl := r0) (th := th) (ol := ol) (e0 := e0) hm_25 hm_26 hm_27 hm_28 hs0 (by omega) hth hol fr_40 fr_41 fr_42 fr_43) (cwV 0 hts (gV (lwg_of t_644 rfl) (lwg_of t_645 rfl) (lwg_of t_646 rfl) (lwg_of t_5 rfl) (lwg_of t_647 rfl)) rfl rfl rfl (by decide +kernel) ⟨Nat.le_of_ble_eq_true rfl, Nat.le_of_ble_eq_true rfl⟩) (hI.preV hm_25 rfl) rfl rfl hl.1 rfl (lv_room (Nat.le_of_ble_eq_true rfl)) dX9_put_83 ⟨Nat.le_of_ble_eq_true rfl, Nat.le_of_ble_eq_true rfl⟩) hI (fun r_46 ad_51 M_48 H_49 locs_50 hp_47 hI => ?_)
            obtain ⟨hr_52, hm_53, hm_54, hm_55, hm_56, hF_57, hAd_58⟩ := hp_47
            have hm_59 : M_48 (100 + 5 * n + 1) = some (cEnds ad_51 (100 + 5 * n + 1) s0) := hm_53
            have hm_60 : M_48 (100 + 5 * n + 2) = some (aI G 6 (nF (frs s0 r0))) := hm_54
            have hm_61 : M_48 (100 + 5 * n + 3) = some (aI G 6 (oF (thE (frsE s0 e0)))) := hm_55
            have hm_62 : M_48 (100 + 5 * n + 4) = some (aI G 6 (oF (olE (frsE s0 e0)))) := hm_56
            have hAd_63 : ∀ j : Nat, j ≠ (100 + 5 * n + 1) → j ≠ (100 + 5 * n + 2) → j ≠ (100 + 5 * n + 3) → j ≠ (100 + 5 * n + 4) → ad_51 j = ad_16 j := hAd_58
            have hF_64 : ∀ j : Nat, j ≠ (100 + 5 * n + 1) → j ≠ (100 + 5 * n + 2) → j ≠ (100 + 5 * n + 3) → j ≠ (100 + 5 * n + 4) → M_48 j = M_17 j := hF_57
            have hm_65 : M_48 0 = some (cStore ad_51 qa qs fw) := by rw [hF_64 0 (by omega) (by omega) (by omega) (by omega), hm_24]; simp only [cStore, hAd_63 1 (by omega) (by omega) (by omega) (by omega), hAd_63 3 (by omega) (by omega) (by omega) (by omega), hAd_63 8 (by omega) (by omega) (by omega) (by omega), hAd_63 12 (by omega) (by omega) (by omega) (by omega), hAd_63 16 (by omega) (by omega) (by omega) (by omega), hAd_63 22 (by omega) (by omega) (by omega) (by omega), hAd_63 23 (by omega) (by omega) (by omega) (by omega), hAd_63 qa (by omega) (by omega) (by omega) (by omega), hAd_63 qs (by omega) (by omega) (by omega) (by omega)]
            have hm_66 : M_48 12 = some (cEnds ad_51 12 s0) := by rw [hF_64 12 (by omega) (by omega) (by omega) (by omega), hm_25]; simp only [cEnds, hAd_63 13 (by omega) (by omega) (by omega) (by omega), hAd_63 14 (by omega) (by omega) (by omega) (by omega), hAd_63 15 (by omega) (by omega) (by omega) (by omega)]
            have hm_67 : M_48 13 = some (aI G 6 (nF r0)) := by rw [hF_64 13 (by omega) (by omega) (by omega) (by omega), hm_26]
            have hm_68 : M_48 14 = some (aI G 6 (oF th)) := by rw [hF_64 14 (by omega) (by omega) (by omega) (by omega), hm_27]
            have hm_69 : M_48 15 = some (aI G 6 (oF ol)) := by rw [hF_64 15 (by omega) (by omega) (by omega) (by omega), hm_28]
            have hm_70 : M_48 16 = some (cLines ad_51 ) := by rw [hF_64 16 (by omega) (by omega) (by omega) (by omega), hm_29]; simp only [cLines, hAd_63 17 (by omega) (by omega) (by omega) (by omega), hAd_63 19 (by omega) (by omega) (by omega) (by omega), hAd_63 20 (by omega) (by omega) (by omega) (by omega), hAd_63 21 (by omega) (by omega) (by omega) (by omega)]
            have hm_71 : M_48 3 = some (cLaws ad_51 ) := by rw [hF_64 3 (by omega) (by omega) (by omega) (by omega), hm_30]; simp only [cLaws, hAd_63 4 (by omega) (by omega) (by omega) (by omega), hAd_63 5 (by omega) (by omega) (by omega) (by omega), hAd_63 6 (by omega) (by omega) (by omega) (by omega), hAd_63 7 (by omega) (by omega) (by omega) (by omega)]
            have hm_72 : M_48 4 = some (aI G 36 (nF le)) := by rw [hF_64 4 (by omega) (by omega) (by omega) (by omega), hm_31]
            have hm_73 : M_48 5 = some (aI G 36 (nF mo)) := by rw [hF_64 5 (by omega) (by omega) (by omega) (by omega), hm_32]
            have hm_74 : M_48 6 = some (aI G 36 (nF al)) := by rw [hF_64 6 (by omega) (by omega) (by omega) (by omega), hm_33]
            have hm_75 : M_48 8 = some (cOnes ad_51 jn) := by rw [hF_64 8 (by omega) (by omega) (by omega) (by omega), hm_34]; simp only [cOnes, hAd_63 9 (by omega) (by omega) (by omega) (by omega), hAd_63 10 (by omega) (by omega) (by omega) (by omega), hAd_63 11 (by omega) (by omega) (by omega) (by omega)]
            have hm_76 : M_48 10 = some (aI G 40 (nF lst)) := by rw [hF_64 10 (by omega) (by omega) (by omega) (by omega), hm_35]
            have hm_77 : M_48 20 = some (aI G 120 ff) := by rw [hF_64 20 (by omega) (by omega) (by omega) (by omega), hm_36]
            have hm_78 : M_48 21 = some (aI G 120 lq) := by rw [hF_64 21 (by omega) (by omega) (by omega) (by omega), hm_37]
            have hm_79 : M_48 17 = some (cList ad_51 mcn ed n) := by rw [hF_64 17 (by omega) (by omega) (by omega) (by omega), hm_38]
            have hm_80 : M_48 18 = some (aO G n lf) := by rw [hF_64 18 (by omega) (by omega) (by omega) (by omega), hm_39]
            have hm_81 : M_48 (100 + 5 * n) = some (.inr (3, [.int (nI 0), .int (nI 0), .int (nI 0), .null])) := by rw [hF_64 (100 + 5 * n) (by omega) (by omega) (by omega) (by omega), hm_23]
            have fr_82 : M_48 29 = none := by rw [hF_64 29 (by omega) (by omega) (by omega) (by omega)]; exact fr_44
            clear hm_24 hm_25 hm_26 hm_27 hm_28 hm_29 hm_30 hm_31 hm_32 hm_33 hm_34 hm_35 hm_36 hm_37 hm_38 hm_39 hm_23 fr_44
            have hF_83 : ∀ j : Nat, j ≠ (100 + 5 * n) → j ≠ (100 + 5 * n + 1) → j ≠ (100 + 5 * n + 2) → j ≠ (100 + 5 * n + 3) → j ≠ (100 + 5 * n + 4) → M_48 j = M j := fun j q0 q1 q2 q3 q4 => (hF_64 j q1 q2 q3 q4).trans (hF_45 j q0)
            clear hF_45 hF_57
            rw [hr_52]; show W _ _ _ _ _ _ _ _ _ _ _ _ _ _ _ (F0 m 86 ls (.ref (ad_51 (100 + 5 * n + 1)) :: [.int (nI g), .int (nI f), .int (nI y), .ref (ad_16 (100 + 5 * n)), .ref (ad_16 (100 + 5 * n))]))
            refine n_eqs (show ([.ref (ad_51 (100 + 5 * n + 1)), .int (nI g), .int (nI f), .int (nI y), .ref (ad_16 (100 + 5 * n)), .ref (ad_16 (100 + 5 * n))] : List Value) = [.ref (ad_51 (100 + 5 * n + 1)), .int (nI g), .int (nI f), .int (nI y), .ref (ad_51 (100 + 5 * n)), .ref (ad_51 (100 + 5 * n))] from by rw [hAd_63 (100 + 5 * n) (by omega) (by omega) (by omega) (by omega)]) ?_
            refine k_Nv (va_runI (As := [.int (nI y), .int (nI f), .int (nI g), .ref (ad_51 (100 + 5 * n + 1))]) (rest := [.ref (ad_51 (100 + 5 * n))]) ⟨hx, hb, hml, hown, hts⟩ (c_X2_init l G z ad_51 M_48 (k := 100 + 5 * n) (kd := y) (fm := nI f) (to := nI g) hm_81) (cwI 4 hts (gU (lwg_of t_655 rfl)) rfl rfl rfl sp_142 ml_142 in_142 rfl (by decide +kernel) ⟨Nat.le_of_ble_eq_true rfl, Nat.le_of_ble_eq_true rfl⟩) hI.preS rfl rfl hl.1 rfl (lv_room (Nat.le_of_ble_eq_true rfl)) dX9_put_86 ⟨Nat.le_of_ble_eq_true rfl, Nat.le_of_ble_eq_true rfl⟩) hI (fun M_86 H_87 locs_88 hp_85 hI => ?_)
            obtain ⟨hm_89, hF_90⟩ := hp_85
            have hm_91 : M_86 0 = some (cStore ad_51 qa qs fw) := by rw [hF_90 0 (by omega)]; exact hm_65
            have hm_92 : M_86 12 = some (cEnds ad_51 12 s0) := by rw [hF_90 12 (by omega)]; exact hm_66
            have hm_93 : M_86 13 = some (aI G 6 (nF r0)) := by rw [hF_90 13 (by omega)]; exact hm_67
            have hm_94 : M_86 14 = some (aI G 6 (oF th)) := by rw [hF_90 14 (by omega)]; exact hm_68
            have hm_95 : M_86 15 = some (aI G 6 (oF ol)) := by rw [hF_90 15 (by omega)]; exact hm_69
            have hm_96 : M_86 16 = some (cLines ad_51 ) := by rw [hF_90 16 (by omega)]; exact hm_70
            have hm_97 : M_86 3 = some (cLaws ad_51 ) := by rw [hF_90 3 (by omega)]; exact hm_71
            have hm_98 : M_86 4 = some (aI G 36 (nF le)) := by rw [hF_90 4 (by omega)]; exact hm_72
            have hm_99 : M_86 5 = some (aI G 36 (nF mo)) := by rw [hF_90 5 (by omega)]; exact hm_73
            have hm_100 : M_86 6 = some (aI G 36 (nF al)) := by rw [hF_90 6 (by omega)]; exact hm_74
            have hm_101 : M_86 8 = some (cOnes ad_51 jn) := by rw [hF_90 8 (by omega)]; exact hm_75
            have hm_102 : M_86 10 = some (aI G 40 (nF lst)) := by rw [hF_90 10 (by omega)]; exact hm_76
            have hm_103 : M_86 20 = some (aI G 120 ff) := by rw [hF_90 20 (by omega)]; exact hm_77
            have hm_104 : M_86 21 = some (aI G 120 lq) := by rw [hF_90 21 (by omega)]; exact hm_78
            have hm_105 : M_86 17 = some (cList ad_51 mcn ed n) := by rw [hF_90 17 (by omega)]; exact hm_79
            have hm_106 : M_86 18 = some (aO G n lf) := by rw [hF_90 18 (by omega)]; exact hm_80
            have hm_107 : M_86 (100 + 5 * n + 1) = some (cEnds ad_51 (100 + 5 * n + 1) s0) := by rw [hF_90 (100 + 5 * n + 1) (by omega)]; exact hm_59
            have hm_108 : M_86 (100 + 5 * n + 2) = some (aI G 6 (nF (frs s0 r0))) := by rw [hF_90 (100 + 5 * n + 2) (by omega)]; exact hm_60
            have hm_109 : M_86 (100 + 5 * n + 3) = some (aI G 6 (oF (thE (frsE s0 e0)))) := by rw [hF_90 (100 + 5 * n + 3) (by omega)]; exact hm_61
            have hm_110 : M_86 (100 + 5 * n + 4) = some (aI G 6 (oF (olE (frsE s0 e0)))) := by rw [hF_90 (100 + 5 * n + 4) (by omega)]; exact hm_62
            have fr_111 : M_86 29 = none := by rw [hF_90 29 (by omega)]; exact fr_82
            have hF_112 : ∀ j : Nat, j ≠ (100 + 5 * n) → j ≠ (100 + 5 * n + 1) → j ≠ (100 + 5 * n + 2) → j ≠ (100 + 5 * n + 3) → j ≠ (100 + 5 * n + 4) → M_86 j = M j := fun j q0 q1 q2 q3 q4 => (hF_90 j q0).trans (hF_83 j q0 q1 q2 q3 q4)
            refine lv_astore (lv' := [(4, .ref (ad_51 (100 + 5 * n))), (0, .ref (ad 0)), (1, .int (nI y)), (2, .int (nI f)), (3, .int (nI g))]) hx hb dX9_put_89 hl (by decide) rfl (fun ls hl => ?_)
            refine lv_aload_n hx hb dX9_put_91 rfl (lv_at hl 1 rfl) ?_
            refine n_eqv (show Value.ref (ad 0) = .ref (ad_51 0) from by rw [hAd_63 0 (by omega) (by omega) (by omega) (by omega), hAd_22 0 (by omega)]) ?_
            refine h_get (C := RX9) (T := TX9) (N := 10) hx hb hts i_RX9 hown hI hm_91 rfl 3 (by decide) f_33 rfl rfl dX9_put_92 ?_
            refine k_Nv (va_runV (As := []) (rest := []) ⟨hx, hb, hml, hown, hts⟩ (c_X0_clear l G z ad_51 M_86 (sz := s0) hm_92) (cwV 0 hts (gV (lwg_of t_682 rfl) (lwg_of t_683 rfl) (lwg_of t_684 rfl) (lwg_of t_5 rfl) (lwg_of t_685 rfl)) rfl rfl rfl (by decide +kernel) ⟨Nat.le_of_ble_eq_true rfl, Nat.le_of_ble_eq_true rfl⟩) (hI.preV hm_92 rfl) rfl rfl hl.1 rfl (lv_room (Nat.le_of_ble_eq_true rfl)) dX9_put_95 ⟨Nat.le_of_ble_eq_true rfl, Nat.le_of_ble_eq_true rfl⟩) hI (fun M_115 H_116 locs_117 hp_114 hI => ?_)
            obtain ⟨hm_118, hF_119⟩ := hp_114
            have hm_120 : M_115 0 = some (cStore ad_51 qa qs fw) := by rw [hF_119 0 (by omega)]; exact hm_91
            have hm_121 : M_115 13 = some (aI G 6 (nF r0)) := by rw [hF_119 13 (by omega)]; exact hm_93
            have hm_122 : M_115 14 = some (aI G 6 (oF th)) := by rw [hF_119 14 (by omega)]; exact hm_94
            have hm_123 : M_115 15 = some (aI G 6 (oF ol)) := by rw [hF_119 15 (by omega)]; exact hm_95
            have hm_124 : M_115 16 = some (cLines ad_51 ) := by rw [hF_119 16 (by omega)]; exact hm_96
            have hm_125 : M_115 3 = some (cLaws ad_51 ) := by rw [hF_119 3 (by omega)]; exact hm_97
            have hm_126 : M_115 4 = some (aI G 36 (nF le)) := by rw [hF_119 4 (by omega)]; exact hm_98
            have hm_127 : M_115 5 = some (aI G 36 (nF mo)) := by rw [hF_119 5 (by omega)]; exact hm_99
            have hm_128 : M_115 6 = some (aI G 36 (nF al)) := by rw [hF_119 6 (by omega)]; exact hm_100
            have hm_129 : M_115 8 = some (cOnes ad_51 jn) := by rw [hF_119 8 (by omega)]; exact hm_101
            have hm_130 : M_115 10 = some (aI G 40 (nF lst)) := by rw [hF_119 10 (by omega)]; exact hm_102
            have hm_131 : M_115 20 = some (aI G 120 ff) := by rw [hF_119 20 (by omega)]; exact hm_103
            have hm_132 : M_115 21 = some (aI G 120 lq) := by rw [hF_119 21 (by omega)]; exact hm_104
            have hm_133 : M_115 17 = some (cList ad_51 mcn ed n) := by rw [hF_119 17 (by omega)]; exact hm_105
            have hm_134 : M_115 18 = some (aO G n lf) := by rw [hF_119 18 (by omega)]; exact hm_106
            have hm_135 : M_115 (100 + 5 * n) = some (cLine ad_51 (100 + 5 * n) y (nI f) (nI g)) := by rw [hF_119 (100 + 5 * n) (by omega)]; exact hm_89
            have hm_136 : M_115 (100 + 5 * n + 1) = some (cEnds ad_51 (100 + 5 * n + 1) s0) := by rw [hF_119 (100 + 5 * n + 1) (by omega)]; exact hm_107
            have hm_137 : M_115 (100 + 5 * n + 2) = some (aI G 6 (nF (frs s0 r0))) := by rw [hF_119 (100 + 5 * n + 2) (by omega)]; exact hm_108
            have hm_138 : M_115 (100 + 5 * n + 3) = some (aI G 6 (oF (thE (frsE s0 e0)))) := by rw [hF_119 (100 + 5 * n + 3) (by omega)]; exact hm_109
            have hm_139 : M_115 (100 + 5 * n + 4) = some (aI G 6 (oF (olE (frsE s0 e0)))) := by rw [hF_119 (100 + 5 * n + 4) (by omega)]; exact hm_110
            have fr_140 : M_115 29 = none := by rw [hF_119 29 (by omega)]; exact fr_111
            have hF_141 : ∀ j : Nat, j ≠ (100 + 5 * n) → j ≠ (100 + 5 * n + 1) → j ≠ (100 + 5 * n + 2) → j ≠ (100 + 5 * n + 3) → j ≠ (100 + 5 * n + 4) → j ≠ 12 → M_115 j = M j := fun j q0 q1 q2 q3 q4 q5 => (hF_119 j q5).trans (hF_112 j q0 q1 q2 q3 q4)
            have hL9 : LSm G ad_51 M_115 n kd fm to sz rl en := hL.mv (fun j hj => hF_141 j (by omega) (by omega) (by omega) (by omega) (by omega) (by omega)) (fun j hj => by rw [hAd_63 j (by omega) (by omega) (by omega) (by omega), hAd_22 j (by omega)])
            refine lv_aload_n hx hb dX9_put_98 rfl (lv_at hl 1 rfl) ?_
            refine n_eqv (show Value.ref (ad 0) = .ref (ad_51 0) from by rw [hAd_63 0 (by omega) (by omega) (by omega) (by omega), hAd_22 0 (by omega)]) ?_
            refine lv_aload hx hb dX9_put_99 (lv_at hl 0 rfl) ?_
            refine k_Ni (va_runV (As := [.ref (ad_51 (100 + 5 * n))]) (rest := []) ⟨hx, hb, hml, hown, hts⟩ (c_X9_whyRefused l G z ad_51 M_115 (n := n) (kd := kd) (fm := fm) (to := to) (sz := sz) (rl := rl) (en := en) (qa := qa) (qs := qs) (fw := fw) (k := 100 + 5 * n) (q := y) (f0 := (nI f)) (t0 := (nI g)) (s0 := s0) (r0 := frs s0 r0) (e0 := frsE s0 e0) (jn := jn) (lst := lst) (le := le) (mo := mo) (al := al) (ff := ff) (lf := lq) hL9 hm_120 hm_135 hm_136 hm_137 hm_138 hm_139 hm_125 hm_126 hm_127 hm_128 hm_129 hm_130 hm_131 hm_132 hw hs0 (fun j hj => by rw [frs_is hj]; exact hr0 j hj) (fun j hj => by rw [frsE_is hj]; exact he0 j hj) hlst hy (by omega) hle hmo hal) (cwV 1 hts (gV (lwg_of t_686 rfl) (lwg_of t_688 rfl) (lwg_of ts_8 rfl) (lwg_of t_1 rfl) (lwg_of t_689 rfl)) rfl rfl rfl (by decide +kernel) ⟨Nat.le_of_ble_eq_true rfl, Nat.le_of_ble_eq_true rfl⟩) (hI.preV hm_120 rfl) rfl rfl hl.1 rfl (lv_room (Nat.le_of_ble_eq_true rfl)) dX9_put_101 ⟨Nat.le_of_ble_eq_true rfl, Nat.le_of_ble_eq_true rfl⟩) hI (fun r_142 M_144 H_145 locs_146 hp_143 hI => ?_)
            obtain ⟨ff2_151, lf2_152, hm_147, hm_148, hF_149, hP_150⟩ := hp_143
            have hm_153 : M_144 0 = some (cStore ad_51 qa qs fw) := by rw [hF_149 0 (by omega) (by omega)]; exact hm_120
            have hm_154 : M_144 12 = some (cEnds ad_51 12 0) := by rw [hF_149 12 (by omega) (by omega)]; exact hm_118
            have hm_155 : M_144 13 = some (aI G 6 (nF r0)) := by rw [hF_149 13 (by omega) (by omega)]; exact hm_121
            have hm_156 : M_144 14 = some (aI G 6 (oF th)) := by rw [hF_149 14 (by omega) (by omega)]; exact hm_122
            have hm_157 : M_144 15 = some (aI G 6 (oF ol)) := by rw [hF_149 15 (by omega) (by omega)]; exact hm_123
            have hm_158 : M_144 16 = some (cLines ad_51 ) := by rw [hF_149 16 (by omega) (by omega)]; exact hm_124
            have hm_159 : M_144 3 = some (cLaws ad_51 ) := by rw [hF_149 3 (by omega) (by omega)]; exact hm_125
            have hm_160 : M_144 4 = some (aI G 36 (nF le)) := by rw [hF_149 4 (by omega) (by omega)]; exact hm_126
            have hm_161 : M_144 5 = some (aI G 36 (nF mo)) := by rw [hF_149 5 (by omega) (by omega)]; exact hm_127
            have hm_162 : M_144 6 = some (aI G 36 (nF al)) := by rw [hF_149 6 (by omega) (by omega)]; exact hm_128
            have hm_163 : M_144 8 = some (cOnes ad_51 jn) := by rw [hF_149 8 (by omega) (by omega)]; exact hm_129
            have hm_164 : M_144 10 = some (aI G 40 (nF lst)) := by rw [hF_149 10 (by omega) (by omega)]; exact hm_130
            have hm_165 : M_144 17 = some (cList ad_51 mcn ed n) := by rw [hF_149 17 (by omega) (by omega)]; exact hm_133
            have hm_166 : M_144 18 = some (aO G n lf) := by rw [hF_149 18 (by omega) (by omega)]; exact hm_134
            have hm_167 : M_144 (100 + 5 * n) = some (cLine ad_51 (100 + 5 * n) y (nI f) (nI g)) := by rw [hF_149 (100 + 5 * n) (by omega) (by omega)]; exact hm_135
            have hm_168 : M_144 (100 + 5 * n + 1) = some (cEnds ad_51 (100 + 5 * n + 1) s0) := by rw [hF_149 (100 + 5 * n + 1) (by omega) (by omega)]; exact hm_136
            have hm_169 : M_144 (100 + 5 * n + 2) = some (aI G 6 (nF (frs s0 r0))) := by rw [hF_149 (100 + 5 * n + 2) (by omega) (by omega)]; exact hm_137
            have hm_170 : M_144 (100 + 5 * n + 3) = some (aI G 6 (oF (thE (frsE s0 e0)))) := by rw [hF_149 (100 + 5 * n + 3) (by omega) (by omega)]; exact hm_138
            have hm_171 : M_144 (100 + 5 * n + 4) = some (aI G 6 (oF (olE (frsE s0 e0)))) := by rw [hF_149 (100 + 5 * n + 4) (by omega) (by omega)]; exact hm_139
            have fr_172 : M_144 29 = none := by rw [hF_149 29 (by omega) (by omega)]; exact fr_140
            have hL_173 : LSm G ad_51 M_144 n kd fm to sz rl en := hL9.keep (fun j hj => hF_149 j (by omega) (by omega))
            have hF_174 : ∀ j : Nat, j ≠ (100 + 5 * n) → j ≠ (100 + 5 * n + 1) → j ≠ (100 + 5 * n + 2) → j ≠ (100 + 5 * n + 3) → j ≠ (100 + 5 * n + 4) → j ≠ 12 → j ≠ 20 → j ≠ 21 → M_144 j = M j := fun j q0 q1 q2 q3 q4 q5 q6 q7 => (hF_149 j q6 q7).trans (hF_141 j q0 q1 q2 q3 q4 q5)
            have hP9 := hP_150
            rw [alw_cg (r0 := frs s0 r0) (r1 := r0) (fun j hj => frs_is hj), brs_cg (e0 := frsE s0 e0) (e1 := e0) (fun j hj => frsE_is hj), crw_cg (r0 := frs s0 r0) (r1 := r0) (e0 := frsE s0 e0) (e1 := e0) (fun j hj => frs_is hj) (fun j hj => frsE_is hj)] at hP9
            have hr9 : r_142 = nI 0 := by
              rcases hP9 with h | h | h | h
              · exact absurd hok.1 h.2
              · exact absurd hok.2.1 h.2.2
              · exact absurd h.2.2.2 hok.2.2
              · exact h.1
            refine n_eq hr9 ?_
            refine lv_istore (lv' := [(5, .int (nI 0)), (4, .ref (ad_51 (100 + 5 * n))), (0, .ref (ad 0)), (1, .int (nI y)), (2, .int (nI f)), (3, .int (nI g))]) hx hb dX9_put_104 hl (by decide) rfl (fun ls hl => ?_)
            refine lv_iload hx hb dX9_put_106 (lv_at hl 0 rfl) ?_
            refine lv_if_ne (tgt := 123) hx hb dX9_put_108 (by decide) (fun c_175 => ?_) (fun c_175 => ?_)
            · -- 108: nI 0 ne
              exact absurd (by decide) c_175
            · -- 108: nI 0 eq
              refine lv_aload_n hx hb dX9_put_111 rfl (lv_at hl 2 rfl) ?_
              refine n_eqv (show Value.ref (ad 0) = .ref (ad_51 0) from by rw [hAd_63 0 (by omega) (by omega) (by omega) (by omega), hAd_22 0 (by omega)]) ?_
              refine h_get (C := RX9) (T := TX9) (N := 10) hx hb hts i_RX9 hown hI hm_153 rfl 4 (by decide) f_40 rfl rfl dX9_put_112 ?_
              refine lv_aload hx hb dX9_put_115 (lv_at hl 1 rfl) ?_
              refine k_Ai (va_runV (As := [.ref (ad_51 (100 + 5 * n))]) (rest := []) ⟨hx, hb, hml, hown, hts⟩ (c_X3_add_1 l G z ad_51 M_144 (mcn := mcn) (ed := ed) (n := n) (lf := lf) (k := 100 + 5 * n) (kd := y) (fm := (nI f)) (to := (nI g)) hm_158 hm_165 hm_166 hm_167 (by omega) (by rw [hed]; exact ((hAd_63 18 (by omega) (by omega) (by omega) (by omega)).trans (hAd_22 18 (by omega))).symm) (by omega) (fun i9 h9 => ⟨100 + 5 * i9, _, by rw [hlf i9 h9, ← hAd_22 (100 + 5 * i9) (by omega), ← hAd_63 (100 + 5 * i9) (by omega) (by omega) (by omega) (by omega)], by rw [hF_174 (100 + 5 * i9) (by omega) (by omega) (by omega) (by omega) (by omega) (by omega) (by omega) (by omega)]; exact ((hL.2.2 i9 h9).1), by omega⟩) fr_172) (cwV 1 hts (gV (lwg_of t_749 rfl) (lwg_of t_750 rfl) (lwg_of t_751 rfl) (lwg_of t_6 rfl) (lwg_of t_752 rfl)) rfl rfl rfl (by decide +kernel) ⟨Nat.le_of_ble_eq_true rfl, Nat.le_of_ble_eq_true rfl⟩) (hI.preV hm_158 rfl) rfl rfl hl.1 rfl (lv_room (Nat.le_of_ble_eq_true rfl)) dX9_put_117 ⟨Nat.le_of_ble_eq_true rfl, Nat.le_of_ble_eq_true rfl⟩) hI (fun r_176 ad_181 M_178 H_179 locs_180 hp_177 hI => ?_)
              obtain ⟨hr_182, hm_183, hm_184, hF_185, hAd_186⟩ := hp_177
              have hm_187 : M_178 17 = some (cList ad_181 (mcn + nI 1) (ad_181 18) (n + 1)) := hm_183
              have hm_188 : M_178 18 = some (aO G (n + max 1 (n / 2)) (va_up (va_cpy lf (fun _ => none) 0 0 n) n (some (ad_181 (100 + 5 * n))))) := hm_184
              have hAd_189 : ∀ j : Nat, j ≠ 18 → ad_181 j = ad_51 j := hAd_186
              have hF_190 : ∀ j : Nat, j ≠ 17 → j ≠ 18 → M_178 j = M_144 j := hF_185
              have hm_191 : M_178 0 = some (cStore ad_181 qa qs fw) := by rw [hF_190 0 (by decide) (by decide), hm_153]; simp only [cStore, hAd_189 1 (by decide), hAd_189 3 (by decide), hAd_189 8 (by decide), hAd_189 12 (by decide), hAd_189 16 (by decide), hAd_189 22 (by decide), hAd_189 23 (by decide), hAd_189 qa (by omega), hAd_189 qs (by omega)]
              have hm_192 : M_178 12 = some (cEnds ad_181 12 0) := by rw [hF_190 12 (by decide) (by decide), hm_154]; simp only [cEnds, hAd_189 13 (by decide), hAd_189 14 (by decide), hAd_189 15 (by decide)]
              have hm_193 : M_178 13 = some (aI G 6 (nF r0)) := by rw [hF_190 13 (by decide) (by decide), hm_155]
              have hm_194 : M_178 14 = some (aI G 6 (oF th)) := by rw [hF_190 14 (by decide) (by decide), hm_156]
              have hm_195 : M_178 15 = some (aI G 6 (oF ol)) := by rw [hF_190 15 (by decide) (by decide), hm_157]
              have hm_196 : M_178 16 = some (cLines ad_181 ) := by rw [hF_190 16 (by decide) (by decide), hm_158]; simp only [cLines, hAd_189 17 (by decide), hAd_189 19 (by decide), hAd_189 20 (by decide), hAd_189 21 (by decide)]
              have hm_197 : M_178 3 = some (cLaws ad_181 ) := by rw [hF_190 3 (by decide) (by decide), hm_159]; simp only [cLaws, hAd_189 4 (by decide), hAd_189 5 (by decide), hAd_189 6 (by decide), hAd_189 7 (by decide)]
              have hm_198 : M_178 4 = some (aI G 36 (nF le)) := by rw [hF_190 4 (by decide) (by decide), hm_160]
              have hm_199 : M_178 5 = some (aI G 36 (nF mo)) := by rw [hF_190 5 (by decide) (by decide), hm_161]
              have hm_200 : M_178 6 = some (aI G 36 (nF al)) := by rw [hF_190 6 (by decide) (by decide), hm_162]
              have hm_201 : M_178 8 = some (cOnes ad_181 jn) := by rw [hF_190 8 (by decide) (by decide), hm_163]; simp only [cOnes, hAd_189 9 (by decide), hAd_189 10 (by decide), hAd_189 11 (by decide)]
              have hm_202 : M_178 10 = some (aI G 40 (nF lst)) := by rw [hF_190 10 (by decide) (by decide), hm_164]
              have hm_203 : M_178 20 = some (aI G 120 ff2_151) := by rw [hF_190 20 (by decide) (by decide), hm_147]
              have hm_204 : M_178 21 = some (aI G 120 lf2_152) := by rw [hF_190 21 (by decide) (by decide), hm_148]
              have hm_205 : M_178 (100 + 5 * n) = some (cLine ad_181 (100 + 5 * n) y (nI f) (nI g)) := by rw [hF_190 (100 + 5 * n) (by omega) (by omega), hm_167]; simp only [cLine, hAd_189 (100 + 5 * n + 1) (by omega)]
              have hm_206 : M_178 (100 + 5 * n + 1) = some (cEnds ad_181 (100 + 5 * n + 1) s0) := by rw [hF_190 (100 + 5 * n + 1) (by omega) (by omega), hm_168]; simp only [cEnds, hAd_189 (100 + 5 * n + 2) (by omega), hAd_189 (100 + 5 * n + 3) (by omega), hAd_189 (100 + 5 * n + 4) (by omega)]
              have hm_207 : M_178 (100 + 5 * n + 2) = some (aI G 6 (nF (frs s0 r0))) := by rw [hF_190 (100 + 5 * n + 2) (by omega) (by omega), hm_169]
              have hm_208 : M_178 (100 + 5 * n + 3) = some (aI G 6 (oF (thE (frsE s0 e0)))) := by rw [hF_190 (100 + 5 * n + 3) (by omega) (by omega), hm_170]
              have hm_209 : M_178 (100 + 5 * n + 4) = some (aI G 6 (oF (olE (frsE s0 e0)))) := by rw [hF_190 (100 + 5 * n + 4) (by omega) (by omega), hm_171]
              have fr_210 : M_178 29 = none := by rw [hF_190 29 (by decide) (by decide)]; exact fr_172
              clear hm_153 hm_154 hm_155 hm_156 hm_157 hm_158 hm_159 hm_160 hm_161 hm_162 hm_163 hm_164 hm_147 hm_148 hm_167 hm_168 hm_169 hm_170 hm_171 fr_172
              have hF_211 : ∀ j : Nat, j ≠ (100 + 5 * n) → j ≠ (100 + 5 * n + 1) → j ≠ (100 + 5 * n + 2) → j ≠ (100 + 5 * n + 3) → j ≠ (100 + 5 * n + 4) → j ≠ 12 → j ≠ 20 → j ≠ 21 → j ≠ 17 → j ≠ 18 → M_178 j = M j := fun j q0 q1 q2 q3 q4 q5 q6 q7 q8 q9 => (hF_190 j q8 q9).trans (hF_174 j q0 q1 q2 q3 q4 q5 q6 q7)
              clear hF_174 hF_185
              rw [hr_182]
              refine lv_goto (tgt := 126) hx hb dX9_put_120 (by decide) ?_
              exact e_Ai hx hb hr rfl hlocks hI ⟨ff2_151, lf2_152, rfl, hm_192, hm_203, hm_204, hm_205, hm_206, hm_207, hm_208, hm_209, hm_187, hm_188, (fun j q0 q1 q2 q3 q4 q5 q6 q7 q8 q9 => hF_211 j q3 q4 q5 q6 q7 q0 q1 q2 q8 q9), (fun j q0 q1 q2 q3 q4 q5 => (by show ad_181 j = ad j; rw [hAd_189 j q5, hAd_63 j q1 q2 q3 q4, hAd_22 j q0]))⟩ dX9_put_126
          · -- 59: nI n ge
            have c_15 : 120 ≤ n := by have h := mt (nI_ltI (a := n) (b := 120) (by omega) (by omega)).mpr c_15; omega
            omega
        · -- 37: nI s0 eq
          have c_12 : s0 = 0 := (nI_eq (a := s0) (b := 0) (by omega) (by omega)).mp (c_12)
          omega
      · -- 17: nI g gt
        have c_9 : 1000 < g := by have h := mt (nI_leI (a := g) (b := 1000) (by omega) (by omega)).mpr c_9; omega
        omega
