theorem inS_all (t : Nat) : inS 1099511627775 t = decide (t < 40) := by
  have h : (1099511627775 : Int64).toBitVec = BitVec.ofNat 64 (2 ^ 40 - 1) := by decide
  rw [inS, h, BitVec.getLsbD_ofNat, Nat.testBit_two_pow_sub_one]
  by_cases ht : t < 40
  · simp [ht, show t < 64 by omega]
  · simp [ht]
/-- the things of line q in role x -/
def tL (rl en : Nat → Nat → Nat) (sz lst : Nat → Nat) (q x t : Nat) : Prop := tS (rl q) (thE (en q)) lst x (sz q) t
/-- what the parts of atom i below m leave to variable v, in a line whose things in a role are T -/
def sV (T : Nat → Nat → Prop) (ro te : Nat → Nat) (i v m t : Nat) : Prop := t < 40 ∧ ∀ p, p < m → te (i * 4 + p) = 40 + v → T (ro (i * 4 + p)) t
def FF (T : Nat → Nat → Prop) (lst ro te pn : Nat → Nat) (i : Nat) : Prop := (∀ p, p < pn i → te (i * 4 + p) < 40 → T (ro (i * 4 + p)) (lst (te (i * 4 + p)))) ∧ ∀ v, v < 3 → ∃ t, sV T ro te i v (pn i) t
def oth3 (g sx : Nat → Int64) (k : Nat) : Prop := ∀ j, j < k ∨ k + 3 ≤ j → g j = sx j
theorem oth3_up {g sx : Nat → Int64} {k j : Nat} {x : Int64} (h : oth3 g sx k) (h1 : k ≤ j) (h2 : j < k + 3) : oth3 (vp_updL g j x) sx k := fun i hi => by rw [updL_ne _ _ (by omega)]; exact h i hi
section SV
variable {T : Nat → Nat → Prop} {lst ro te pn : Nat → Nat} {i v w j t k : Nat} {g : Nat → Int64} {r : Int64}
theorem sV_0 (h : ∀ v, v < 3 → g (k + v) = 1099511627775) : ∀ v, v < 3 → ∀ t, inS (g (k + v)) t = true ↔ sV T ro te i v 0 t := fun v hv t => by
  rw [h v hv, inS_all, decide_eq_true_eq]
  exact ⟨fun h => ⟨h, fun p hp => absurd hp (Nat.not_lt_zero p)⟩, fun h => h.1⟩
theorem sV_o (h : te (i * 4 + j) ≠ 40 + v) : sV T ro te i v (j + 1) t ↔ sV T ro te i v j t := ⟨fun ⟨h1, h2⟩ => ⟨h1, fun p hp => h2 p (by omega)⟩, fun ⟨h1, h2⟩ => ⟨h1, lt_s2 h2 (fun e => absurd e h)⟩⟩
theorem sV_s (h : te (i * 4 + j) = 40 + v) : sV T ro te i v (j + 1) t ↔ sV T ro te i v j t ∧ T (ro (i * 4 + j)) t := ⟨fun ⟨h1, h2⟩ => ⟨⟨h1, fun p hp => h2 p (by omega)⟩, h2 j (by omega) h⟩, fun ⟨⟨h1, h2⟩, h3⟩ => ⟨h1, lt_s2 h2 (fun _ => h3)⟩⟩
theorem sV_mono {m n : Nat} (h : sV T ro te i v n t) (hm : m ≤ n) : sV T ro te i v m t := ⟨h.1, fun p hp => h.2 p (by omega)⟩
theorem hS_t (hS : ∀ v, v < 3 → ∀ t, inS (g (k + v)) t = true ↔ sV T ro te i v j t) (ht : te (i * 4 + j) < 40) : ∀ v, v < 3 → ∀ t, inS (g (k + v)) t = true ↔ sV T ro te i v (j + 1) t := fun v hv t => (hS v hv t).trans (sV_o (by omega)).symm
theorem hS_v (hS : ∀ v, v < 3 → ∀ t, inS (g (k + v)) t = true ↔ sV T ro te i v j t) (hr : ∀ t, inS r t = true ↔ T (ro (i * 4 + j)) t) (hw : te (i * 4 + j) = 40 + w) {x : Nat} (hx : x = k + w) : ∀ v, v < 3 → ∀ t, inS (vp_updL g x (r &&& g x) (k + v)) t = true ↔ sV T ro te i v (j + 1) t := fun v hv t => by
  subst hx
  by_cases e : v = w
  · subst e
    rw [updL_self, inS_and, Bool.and_eq_true, hr t, hS v hv t, sV_s hw]
    exact and_comm
  · rw [updL_ne _ _ (by omega), hS v hv t, sV_o (by omega)]
theorem hN_v (hS : ∀ v, v < 3 → ∀ t, inS (g (k + v)) t = true ↔ sV T ro te i v j t) (hN : ∀ v, v < 3 → ∃ t, sV T ro te i v j t) (hr : ∀ t, inS r t = true ↔ T (ro (i * 4 + j)) t) (hw : te (i * 4 + j) = 40 + w) (hw3 : w < 3) {x : Nat} (hx : x = k + w) (h0 : r &&& g x ≠ 0) : ∀ v, v < 3 → ∃ t, sV T ro te i v (j + 1) t := fun v hv => by
  subst hx
  by_cases e : v = w
  · subst e
    obtain ⟨s, h1, h2⟩ := and_n0 h0
    exact ⟨s, (sV_s hw).mpr ⟨(hS v hv s).mp h2, (hr s).mp h1⟩⟩
  · obtain ⟨t, ht⟩ := hN v hv
    exact ⟨t, (sV_o (by omega)).mpr ht⟩
theorem hN_t (hN : ∀ v, v < 3 → ∃ t, sV T ro te i v j t) (ht : te (i * 4 + j) < 40) : ∀ v, v < 3 → ∃ t, sV T ro te i v (j + 1) t := fun v hv => by
  obtain ⟨t, h⟩ := hN v hv
  exact ⟨t, (sV_o (by omega)).mpr h⟩
theorem hC_t (hr : ∀ t, inS r t = true ↔ T (ro (i * 4 + j)) t) (hl : lst (te (i * 4 + j)) < 40) (h0 : r &&& ((1 : Int64) <<< ((nI (lst (te (i * 4 + j)))).toInt64 &&& 63)) ≠ 0) : T (ro (i * 4 + j)) (lst (te (i * 4 + j))) := by
  obtain ⟨s, h1, h2⟩ := and_n0 h0
  rw [← (shl1 hl s).mp h2]
  exact (hr s).mp h1
theorem nF_t (hr : ∀ t, inS r t = true ↔ T (ro (i * 4 + j)) t) (hl : lst (te (i * 4 + j)) < 40) (hj : j < pn i) (ht : te (i * 4 + j) < 40) (h0 : r &&& ((1 : Int64) <<< ((nI (lst (te (i * 4 + j)))).toInt64 &&& 63)) = 0) : ¬ FF T lst ro te pn i := fun h => and_0 h0 _ ((hr _).mpr (h.1 j hj ht)) ((shl1 hl _).mpr rfl)
theorem nF_v (hS : ∀ v, v < 3 → ∀ t, inS (g (k + v)) t = true ↔ sV T ro te i v j t) (hr : ∀ t, inS r t = true ↔ T (ro (i * 4 + j)) t) (hw : te (i * 4 + j) = 40 + w) (hw3 : w < 3) {x : Nat} (hx : x = k + w) (hj : j < pn i) (h0 : r &&& g x = 0) : ¬ FF T lst ro te pn i := fun h => by
  subst hx
  obtain ⟨t, ht⟩ := h.2 w hw3
  have h1 := (sV_s hw).mp (sV_mono ht hj)
  exact and_0 h0 t ((hr t).mpr h1.2) ((hS w hw3 t).mpr h1.1)
end SV

/-- X4_fillRows -/
abbrev rm_c_X4_fillRows : Room := { frames := 2, cells := 0, slots := 0, locals := 48 }
set_option maxHeartbeats 4000000 in
set_option maxRecDepth 100000 in
theorem c_X4_fillRows (l : Launch) (G : GG) (z : Nat) (ad : Nat → Nat) (M : Mem) {qm : Nat} {pz : Nat} {aa : Nat} {uv : Nat} {av : Nat → Nat} {sx : Nat → Int64} {ft : Nat → Nat} {rx : Nat → Int64} {a : Nat} {b : Bool} (h23 : M 23 = some (cMatcher ad qm pz)) (h24 : M 24 = some (aJ G 2160 sx)) (h25 : M 25 = some (aI G 6 (nF ft))) (h26 : M 26 = some (aJ G 240 rx)) (hk : M qm = some (cQuestion ad qm aa uv)) (q4 : M (qm + 4) = some (aI G 6 (nF av))) (hqm : 29 < qm ∧ qm < 51) (haa : aa ≤ 6) (ha : a < 40) (hav : ∀ i, i < aa → av i < 8) (hft : ∀ i, i < aa → ft i ≤ 120) : Met l yX4_fillRows wsX4_fillRows rm_c_X4_fillRows (Pr G z ad M [.ref (ad 23), .int (nI a), .int (bI b)]) (Nv G z ad (fun (M' : Mem) => ∃ r2 : Nat → Int64, M' 26 = some (aJ G 240 r2) ∧ (∀ j : Nat, j ≠ 26 → M' j = M j) ∧ (∀ i, i < aa → ((av i).testBit 0 = b → rwR sx r2 i a (ft i)) ∧ ((av i).testBit 0 ≠ b → ∀ j, j < 40 → r2 (i * 40 + j) = rx (i * 40 + j))))) 0 0 (fr z) := by
  refine Met.ofW (cc := cX4_fillRows) (maxL := 4) (ret := none) (by decide) rfl ?_
  intro p e s m args below meth c s₁ B hml hv
  obtain ⟨rfl, hv⟩ := hv
  have hI := Iv.entry hv
  have hx := B.exec
  have hb := B.bytes
  have hr := B.returns
  have hts := atoms_spec (ws := wsX4_fillRows) B.pre
  have hown : s.vm.findClass RX4 = some m.cls := findClass_of_methodNamed B.named
  have hlocks := B.notSynchronized
  have i_RX4 : ∀ w ∈ u_ws RX4 TX4 7, w ∈ wsX4_fillRows := fun w h => List.mem_cons_of_mem _ (iu_X4 w h)
  have f_31 := hts _ (List.mem_cons_of_mem _ (lwg_of t_220 rfl))
  have hl := lv_entry ([.ref (ad 23), .int (nI a), .int (bI b)]) (n := 4) (Nat.le_of_ble_eq_true rfl)
  rw [lg_entry_eq]
  generalize (lg_sl ([.ref (ad 23), .int (nI a), .int (bI b)]) ++ List.replicate (4 - (lg_sl ([.ref (ad 23), .int (nI a), .int (bI b)])).length) Slot.unset).toArray = ls at hl ⊢
  have hl : lv_has ls 4 [(0, .ref (ad 23)), (1, .int (nI a)), (2, .int (bI b))] := hl
  refine w_q (fun Q hQ => ?_)
  refine lv_iconst (v := nI 0) hx hb dX4_fillRows_0 (by decide) ?_
  refine lv_istore_n (lv' := [(3, .int (nI 0)), (0, .ref (ad 23)), (1, .int (nI a)), (2, .int (bI b))]) hx hb dX4_fillRows_1 rfl hl (by decide) rfl (fun ls hl => ?_)
  have lp2_1 : ∀ (fuel : Nat) (i : Nat) (g : Nat → Int64) (Mx : Mem) (Hx : Heap) (locsx : List Loc) (ls : Array Slot), (aa - i) < fuel → (i ≤ aa) → (∀ i9, i9 < i → ((av i9).testBit 0 = b → rwR sx g i9 a (ft i9)) ∧ ((av i9).testBit 0 ≠ b → ∀ j, j < 40 → g (i9 * 40 + j) = rx (i9 * 40 + j))) → (∀ j, i * 40 ≤ j → g j = rx j) → Iv G z ad Mx s Hx locsx → Mx 26 = some (aJ G 240 g) → (∀ j : Nat, j ≠ 26 → Mx j = M j) → lv_has ls 4 [(0, .ref (ad 23)), (1, .int (nI a)), (2, .int (bI b)), (3, .int (nI i))] → W p l e (headSpec wsX4_fillRows rm_c_X4_fillRows).room s m ([.ref (ad 23), .int (nI a), .int (bI b)] : List Value).toArray below meth c Hx locsx 0 0 Q (F0 m 2 ls []) := by
    intro fuel
    induction fuel with
    | zero => intro i g Mx Hx locsx ls hfu hi hR hK hI hm_2 hF_4 hl; exact absurd hfu (Nat.not_lt_zero _)
    | succ fuel ih_5 =>
      intro i g Mx Hx locsx ls hfu hi hR hK hI hm_2 hF_4 hl
      have hm_6 : Mx 23 = some (cMatcher ad qm pz) := by rw [hF_4 23 (by omega)]; exact h23
      have hm_7 : Mx 24 = some (aJ G 2160 sx) := by rw [hF_4 24 (by omega)]; exact h24
      have hm_8 : Mx 25 = some (aI G 6 (nF ft)) := by rw [hF_4 25 (by omega)]; exact h25
      have hm_9 : Mx qm = some (cQuestion ad qm aa uv) := by rw [hF_4 qm (by omega)]; exact hk
      have hm_10 : Mx (qm + 4) = some (aI G 6 (nF av)) := by rw [hF_4 (qm + 4) (by omega)]; exact q4
      refine lv_iload_n hx hb dX4_fillRows_2 rfl (lv_at hl 3 rfl) ?_
      refine lv_aload_n hx hb dX4_fillRows_3 rfl (lv_at hl 0 rfl) ?_
      refine h_get (C := RX4) (T := TX4) (N := 7) hx hb hts i_RX4 hown hI hm_6 rfl 5 (by decide) f_31 rfl rfl dX4_fillRows_4 ?_
      refine k_Ri (va_runV (As := []) (rest := [.int (nI i)]) ⟨hx, hb, hml, hown, hts⟩ (c_X6_atoms l G z ad Mx (k := qm) (aa := aa) (uv := uv) hm_9) (cwV 0 hts (gV (lwg_of t_323 rfl) (lwg_of t_316 rfl) (lwg_of t_317 rfl) (lwg_of t_12 rfl) (lwg_of t_318 rfl)) rfl rfl rfl (by decide +kernel) ⟨Nat.le_of_ble_eq_true rfl, Nat.le_of_ble_eq_true rfl⟩) (hI.preV hm_9 rfl) rfl rfl hl.1 rfl (lv_room (Nat.le_of_ble_eq_true rfl)) dX4_fillRows_7 ⟨Nat.le_of_ble_eq_true rfl, Nat.le_of_ble_eq_true rfl⟩) (fun _ h => h) (fun r_11 hp_12 => ?_)
      rw [hp_12]
      refine lv_icmp_ge (tgt := 38) hx hb dX4_fillRows_10 (by decide) (fun c_13 => ?_) (fun c_13 => ?_)
      · -- 10: nI i ge
        have c_13 : aa ≤ i := (nI_leI (a := aa) (b := i) (by omega) (by omega)).mp (c_13)
        subst hQ
        exact e_Nv hx hb hr hlocks hI ⟨g, hm_2, (fun j q0 => hF_4 j q0), (by rw [show aa = i by omega]; exact hR)⟩ dX4_fillRows_38
      · -- 10: nI i lt
        have c_13 : i < aa := by have h := mt (nI_leI (a := aa) (b := i) (by omega) (by omega)).mpr c_13; omega
        have hav1 := hav i (by omega)
        have hft1 := hft i (by omega)
        refine lv_aload_n hx hb dX4_fillRows_13 rfl (lv_at hl 0 rfl) ?_
        refine h_get (C := RX4) (T := TX4) (N := 7) hx hb hts i_RX4 hown hI hm_6 rfl 5 (by decide) f_31 rfl rfl dX4_fillRows_14 ?_
        refine lv_iload_n hx hb dX4_fillRows_17 rfl (lv_at hl 3 rfl) ?_
        refine lv_iconst (v := nI 0) hx hb dX4_fillRows_18 (by decide) ?_
        refine k_Ri (va_runV (As := [.int (nI i), .int (nI 0)]) (rest := []) ⟨hx, hb, hml, hown, hts⟩ (c_X6_atomUses l G z ad Mx (k := qm) (aa := aa) (uv := uv) (av := av) (i := i) (v := 0) hm_9 hm_10 (by omega) (by omega) (by omega)) (cwV 2 hts (gV (lwg_of t_410 rfl) (lwg_of t_411 rfl) (lwg_of t_412 rfl) (lwg_of t_12 rfl) (lwg_of t_413 rfl)) rfl rfl rfl (by decide +kernel) ⟨Nat.le_of_ble_eq_true rfl, Nat.le_of_ble_eq_true rfl⟩) (hI.preV hm_9 rfl) rfl rfl hl.1 rfl (lv_room (Nat.le_of_ble_eq_true rfl)) dX4_fillRows_19 ⟨Nat.le_of_ble_eq_true rfl, Nat.le_of_ble_eq_true rfl⟩) (fun _ h => h) (fun r_14 hp_15 => ?_)
        rw [hp_15]
        refine lv_iload_n hx hb dX4_fillRows_22 rfl (lv_at hl 2 rfl) ?_
        refine lv_icmp_ne (tgt := 32) hx hb dX4_fillRows_23 (by decide) (fun c_16 => ?_) (fun c_16 => ?_)
        · -- 23: bI ((av i).testBit 0) ne
          have c_16 : (av i).testBit 0 ≠ b := (fun h => c_16 (congrArg bI h))
          refine lv_iinc (v := nI (i + 1)) (lv' := [(3, .int (nI (i + 1))), (0, .ref (ad 23)), (1, .int (nI a)), (2, .int (bI b))]) hx hb dX4_fillRows_32 hl (k := 3) rfl (nI_add i 1) (by decide) rfl (fun ls hl => ?_)
          refine lv_goto (tgt := 2) hx hb dX4_fillRows_35 (by decide) ?_
          exact ih_5 (i + 1) g Mx Hx locsx ls (by omega) (by omega) (lt_s2 hR ⟨fun h => absurd h (by assumption), fun _ j hj => hK _ (by omega)⟩) (fun j hj => hK j (by omega)) hI hm_2 (fun j q0 => hF_4 j q0) (lv_sub hl [1, 2, 3, 0] rfl)
        · -- 23: bI ((av i).testBit 0) eq
          have c_16 : (av i).testBit 0 = b := bI_inj c_16
          refine lv_aload_n hx hb dX4_fillRows_26 rfl (lv_at hl 0 rfl) ?_
          refine lv_iload_n hx hb dX4_fillRows_27 rfl (lv_at hl 3 rfl) ?_
          refine lv_iload_n hx hb dX4_fillRows_28 rfl (lv_at hl 1 rfl) ?_
          refine k_Nv (va_runV (As := [.int (nI i), .int (nI a)]) (rest := []) ⟨hx, hb, hml, hown, hts⟩ (c_X4_fillRow l G z ad Mx (qm := qm) (pz := pz) (sx := sx) (ft := ft) (rx := g) (i := i) (a := a) hm_6 hm_7 hm_8 hm_2 (by omega) (by omega) (by omega)) (cwV 2 hts (gV (lwg_of t_414 rfl) (lwg_of t_416 rfl) (lwg_of ts_4 rfl) (lwg_of t_11 rfl) (lwg_of t_417 rfl)) rfl rfl rfl (by decide +kernel) ⟨Nat.le_of_ble_eq_true rfl, Nat.le_of_ble_eq_true rfl⟩) (hI.preV hm_6 rfl) rfl rfl hl.1 rfl (lv_room (Nat.le_of_ble_eq_true rfl)) dX4_fillRows_29 ⟨Nat.le_of_ble_eq_true rfl, Nat.le_of_ble_eq_true rfl⟩) hI (fun M_19 H_20 locs_21 hp_18 hI => ?_)
          obtain ⟨r2_25, hm_22, hF_23, hP_24⟩ := hp_18
          have hm_26 : M_19 23 = some (cMatcher ad qm pz) := by rw [hF_23 23 (by omega)]; exact hm_6
          have hm_27 : M_19 24 = some (aJ G 2160 sx) := by rw [hF_23 24 (by omega)]; exact hm_7
          have hm_28 : M_19 25 = some (aI G 6 (nF ft)) := by rw [hF_23 25 (by omega)]; exact hm_8
          have hm_29 : M_19 qm = some (cQuestion ad qm aa uv) := by rw [hF_23 qm (by omega)]; exact hm_9
          have hm_30 : M_19 (qm + 4) = some (aI G 6 (nF av)) := by rw [hF_23 (qm + 4) (by omega)]; exact hm_10
          have hF_31 : ∀ j : Nat, j ≠ 26 → M_19 j = M j := fun j q0 => (hF_23 j q0).trans (hF_4 j q0)
          refine lv_iinc (v := nI (i + 1)) (lv' := [(3, .int (nI (i + 1))), (0, .ref (ad 23)), (1, .int (nI a)), (2, .int (bI b))]) hx hb dX4_fillRows_32 hl (k := 3) rfl (nI_add i 1) (by decide) rfl (fun ls hl => ?_)
          refine lv_goto (tgt := 2) hx hb dX4_fillRows_35 (by decide) ?_
          exact ih_5 (i + 1) r2_25 M_19 H_20 locs_21 ls (by omega) (by omega) (lt_s2 (fun i9 h9 => ⟨fun h b9 hb9 t => (by rw [hP_24.2 _ (by omega)]; exact (hR i9 h9).1 h b9 hb9 t), fun h j hj => (by rw [hP_24.2 _ (by omega)]; exact (hR i9 h9).2 h j hj)⟩) ⟨fun _ => hP_24.1, fun h => absurd (by assumption) h⟩) (fun j hj => by rw [hP_24.2 j (by omega)]; exact hK j (by omega)) hI hm_22 (fun j q0 => hF_31 j q0) (lv_sub hl [1, 2, 3, 0] rfl)
  exact lp2_1 ((aa - 0) + 1) 0 rx M s.heap [] ls (Nat.lt_succ_self _) (by omega) (fun j hj => absurd hj (Nat.not_lt_zero j)) (fun _ _ => rfl) hI h26 (fun j _ => rfl) (lv_sub hl [1, 2, 3, 0] rfl)

/-- X4_addIfFits -/
abbrev rm_c_X4_addIfFits : Room := { frames := 2, cells := 0, slots := 0, locals := 46 }
set_option maxHeartbeats 4000000 in
set_option maxRecDepth 100000 in
theorem c_X4_addIfFits (l : Launch) (G : GG) (z : Nat) (ad : Nat → Nat) (M : Mem) {n : Nat} {kd : Nat → Nat} {fm : Nat → Int32} {to : Nat → Int32} {sz : Nat → Nat} {rl : Nat → Nat → Nat} {en : Nat → Nat → Nat} {qm : Nat} {pz : Nat} {aa : Nat} {uv : Nat} {jn : Nat} {lst : Nat → Nat} {pn : Nat → Nat} {ro : Nat → Nat} {te : Nat → Nat} {sx : Nat → Int64} {ft : Nat → Nat} {i : Nat} {q : Nat} (hL : LSm G ad M n kd fm to sz rl en) (h23 : M 23 = some (cMatcher ad qm pz)) (h24 : M 24 = some (aJ G 2160 sx)) (h25 : M 25 = some (aI G 6 (nF ft))) (hk : M qm = some (cQuestion ad qm aa uv)) (q3 : M (qm + 3) = some (aI G 6 (nF pn))) (q5 : M (qm + 5) = some (aI G 24 (nF ro))) (q6 : M (qm + 6) = some (aI G 24 (nF te))) (h8 : M 8 = some (cOnes ad jn)) (h10 : M 10 = some (aI G 40 (nF lst))) (hw : LSw n kd sz rl en) (hq : q < n) (hqm : 29 < qm ∧ qm < 51) (hi6 : i < 6) (hpn : pn i ≤ 4) (hqw : ∀ j, j < pn i → ro (i * 4 + j) < 6 ∧ te (i * 4 + j) < 43) (hft : ft i < 120) (hlst : ∀ u, u < 40 → lst u < 40) : Met l yX4_addIfFits wsX4_addIfFits rm_c_X4_addIfFits (Pr G z ad M [.ref (ad 23), .int (nI i), .ref (ad (100 + 5 * q + 1)), .ref (ad 8)]) (Nv G z ad (fun (M' : Mem) => ∃ s2 : Nat → Int64, ∃ f2 : Nat → Nat, M' 24 = some (aJ G 2160 s2) ∧ M' 25 = some (aI G 6 (nF f2)) ∧ (∀ j : Nat, j ≠ 24 → j ≠ 25 → M' j = M j) ∧ ((f2 = ft ∧ ¬ FF (tL rl en sz lst q) lst ro te pn i ∨ f2 = va_up ft i (ft i + 1) ∧ FF (tL rl en sz lst q) lst ro te pn i ∧ ∀ v, v < 3 → ∀ t, inS (s2 ((i * 120 + ft i) * 3 + v)) t = true ↔ sV (tL rl en sz lst q) ro te i v (pn i) t) ∧ oth3 s2 sx ((i * 120 + ft i) * 3)))) 0 0 (fr z) := by
  refine Met.ofW (cc := cX4_addIfFits) (maxL := 9) (ret := none) (by decide) rfl ?_
  intro p e s m args below meth c s₁ B hml hv
  obtain ⟨rfl, hv⟩ := hv
  have hI := Iv.entry hv
  have hx := B.exec
  have hb := B.bytes
  have hr := B.returns
  have hts := atoms_spec (ws := wsX4_addIfFits) B.pre
  have hown : s.vm.findClass RX4 = some m.cls := findClass_of_methodNamed B.named
  have hlocks := B.notSynchronized
  have i_RX4 : ∀ w ∈ u_ws RX4 TX4 7, w ∈ wsX4_addIfFits := fun w h => List.mem_cons_of_mem _ (iu_X4 w h)
  have f_15 := hts _ (List.mem_cons_of_mem _ (lwg_of t_216 rfl))
  have f_31 := hts _ (List.mem_cons_of_mem _ (lwg_of t_220 rfl))
  have f_9 := hts _ (List.mem_cons_of_mem _ (lwg_of t_215 rfl))
  have k_101 := hts _ (List.mem_cons_of_mem _ (lwg_of t_363 rfl))
  have hl := lv_entry ([.ref (ad 23), .int (nI i), .ref (ad (100 + 5 * q + 1)), .ref (ad 8)]) (n := 9) (Nat.le_of_ble_eq_true rfl)
  rw [lg_entry_eq]
  generalize (lg_sl ([.ref (ad 23), .int (nI i), .ref (ad (100 + 5 * q + 1)), .ref (ad 8)]) ++ List.replicate (9 - (lg_sl ([.ref (ad 23), .int (nI i), .ref (ad (100 + 5 * q + 1)), .ref (ad 8)])).length) Slot.unset).toArray = ls at hl ⊢
  have hl : lv_has ls 9 [(0, .ref (ad 23)), (1, .int (nI i)), (2, .ref (ad (100 + 5 * q + 1))), (3, .ref (ad 8))] := hl
  refine w_q (fun Q hQ => ?_)
  have h16 := hL.1
  obtain ⟨mcn, ed, h17, hed⟩ := id hL.2.1
  have hw1 := hw.1
  obtain ⟨hk6, hs6, hje⟩ := hw.2 q hq
  refine lv_iload_n hx hb dX4_addIfFits_0 rfl (lv_at hl 1 rfl) ?_
  refine lv_bipush (v := nI 120) hx hb dX4_addIfFits_1 (by decide) ?_
  refine lv_imul hx hb dX4_addIfFits_3 ?_
  refine n_eq (pk_mul i 120) ?_
  refine lv_aload_n hx hb dX4_addIfFits_4 rfl (lv_at hl 0 rfl) ?_
  refine h_get (C := RX4) (T := TX4) (N := 7) hx hb hts i_RX4 hown hI h23 rfl 1 (by decide) f_15 rfl rfl dX4_addIfFits_5 ?_
  refine lv_iload_n hx hb dX4_addIfFits_8 rfl (lv_at hl 1 rfl) ?_
  refine h_iald (i := i) hx hb hI h25 (by omega) (by decide) dX4_addIfFits_9 ?_
  refine lv_iadd hx hb dX4_addIfFits_10 ?_
  refine n_eq (nI_add (i * 120) (ft i)) ?_
  refine lv_iconst (v := nI 3) hx hb dX4_addIfFits_11 (by decide) ?_
  refine lv_imul hx hb dX4_addIfFits_12 ?_
  refine n_eq (pk_mul ((i * 120) + (ft i)) 3) ?_
  refine lv_istore (lv' := [(4, .int (nI (((i * 120) + (ft i)) * 3))), (0, .ref (ad 23)), (1, .int (nI i)), (2, .ref (ad (100 + 5 * q + 1))), (3, .ref (ad 8))]) hx hb dX4_addIfFits_13 hl (by decide) rfl (fun ls hl => ?_)
  refine lv_iconst (v := nI 0) hx hb dX4_addIfFits_15 (by decide) ?_
  refine lv_istore (lv' := [(5, .int (nI 0)), (4, .int (nI (((i * 120) + (ft i)) * 3))), (0, .ref (ad 23)), (1, .int (nI i)), (2, .ref (ad (100 + 5 * q + 1))), (3, .ref (ad 8))]) hx hb dX4_addIfFits_16 hl (by decide) rfl (fun ls hl => ?_)
  have lp18_1 : ∀ (fuel : Nat) (j : Nat) (g : Nat → Int64) (Mx : Mem) (Hx : Heap) (locsx : List Loc) (ls : Array Slot), (3 - j) < fuel → (j ≤ 3) → (∀ v, v < j → g ((i * 120 + ft i) * 3 + v) = 1099511627775) → (oth3 g sx ((i * 120 + ft i) * 3)) → Iv G z ad Mx s Hx locsx → Mx 24 = some (aJ G 2160 g) → (∀ j : Nat, j ≠ 24 → Mx j = M j) → lv_has ls 9 [(0, .ref (ad 23)), (1, .int (nI i)), (2, .ref (ad (100 + 5 * q + 1))), (3, .ref (ad 8)), (4, .int (nI ((i * 120 + ft i) * 3))), (5, .int (nI j))] → W p l e (headSpec wsX4_addIfFits rm_c_X4_addIfFits).room s m ([.ref (ad 23), .int (nI i), .ref (ad (100 + 5 * q + 1)), .ref (ad 8)] : List Value).toArray below meth c Hx locsx 0 0 Q (F0 m 18 ls []) := by
    intro fuel
    induction fuel with
    | zero => intro j g Mx Hx locsx ls hfu hj hA ho hI hm_2 hF_4 hl; exact absurd hfu (Nat.not_lt_zero _)
    | succ fuel ih_5 =>
      intro j g Mx Hx locsx ls hfu hj hA ho hI hm_2 hF_4 hl
      have hm_6 : Mx 23 = some (cMatcher ad qm pz) := by rw [hF_4 23 (by omega)]; exact h23
      have hm_7 : Mx 25 = some (aI G 6 (nF ft)) := by rw [hF_4 25 (by omega)]; exact h25
      have hm_8 : Mx qm = some (cQuestion ad qm aa uv) := by rw [hF_4 qm (by omega)]; exact hk
      have hm_9 : Mx (qm + 3) = some (aI G 6 (nF pn)) := by rw [hF_4 (qm + 3) (by omega)]; exact q3
      have hm_10 : Mx (qm + 5) = some (aI G 24 (nF ro)) := by rw [hF_4 (qm + 5) (by omega)]; exact q5
      have hm_11 : Mx (qm + 6) = some (aI G 24 (nF te)) := by rw [hF_4 (qm + 6) (by omega)]; exact q6
      have hm_12 : Mx 8 = some (cOnes ad jn) := by rw [hF_4 8 (by omega)]; exact h8
      have hm_13 : Mx 10 = some (aI G 40 (nF lst)) := by rw [hF_4 10 (by omega)]; exact h10
      have hm_14 : Mx 16 = some (cLines ad ) := by rw [hF_4 16 (by omega)]; exact h16
      have hm_15 : Mx 17 = some (cList ad mcn ed n) := by rw [hF_4 17 (by omega)]; exact h17
      have hL_16 : LSm G ad Mx n kd fm to sz rl en := hL.keep (fun j hj => hF_4 j (by omega))
      refine lv_iload hx hb dX4_addIfFits_18 (lv_at hl 5 rfl) ?_
      refine lv_iconst (v := nI 3) hx hb dX4_addIfFits_20 (by decide) ?_
      refine lv_icmp_ge (tgt := 43) hx hb dX4_addIfFits_21 (by decide) (fun c_17 => ?_) (fun c_17 => ?_)
      · -- 21: nI j ge
        have c_17 : 3 ≤ j := (nI_leI (a := 3) (b := j) (by omega) (by omega)).mp (c_17)
        refine lv_iconst (v := nI 0) hx hb dX4_addIfFits_43 (by decide) ?_
        refine lv_istore (lv' := [(5, .int (nI 0)), (0, .ref (ad 23)), (1, .int (nI i)), (2, .ref (ad (100 + 5 * q + 1))), (3, .ref (ad 8)), (4, .int (nI ((i * 120 + ft i) * 3)))]) hx hb dX4_addIfFits_44 hl (by decide) rfl (fun ls hl => ?_)
        have lp46_18 : ∀ (fuel : Nat) (j : Nat) (g : Nat → Int64) (Mx : Mem) (Hx : Heap) (locsx : List Loc) (ls : Array Slot), (pn i - j) < fuel → (j ≤ pn i) → (∀ v, v < 3 → ∀ t, inS (g ((i * 120 + ft i) * 3 + v)) t = true ↔ sV (tL rl en sz lst q) ro te i v j t) → (∀ v, v < 3 → ∃ t, sV (tL rl en sz lst q) ro te i v j t) → (∀ p9, p9 < j → te (i * 4 + p9) < 40 → (tL rl en sz lst q) (ro (i * 4 + p9)) (lst (te (i * 4 + p9)))) → (oth3 g sx ((i * 120 + ft i) * 3)) → Iv G z ad Mx s Hx locsx → Mx 24 = some (aJ G 2160 g) → (∀ j : Nat, j ≠ 24 → Mx j = M j) → lv_has ls 9 [(0, .ref (ad 23)), (1, .int (nI i)), (2, .ref (ad (100 + 5 * q + 1))), (3, .ref (ad 8)), (4, .int (nI ((i * 120 + ft i) * 3))), (5, .int (nI j))] → W p l e (headSpec wsX4_addIfFits rm_c_X4_addIfFits).room s m ([.ref (ad 23), .int (nI i), .ref (ad (100 + 5 * q + 1)), .ref (ad 8)] : List Value).toArray below meth c Hx locsx 0 0 Q (F0 m 46 ls []) := by
          intro fuel
          induction fuel with
          | zero => intro j g Mx Hx locsx ls hfu hj hS hN hC ho hI hm_19 hF_21 hl; exact absurd hfu (Nat.not_lt_zero _)
          | succ fuel ih_22 =>
            intro j g Mx Hx locsx ls hfu hj hS hN hC ho hI hm_19 hF_21 hl
            have hm_23 : Mx 23 = some (cMatcher ad qm pz) := by rw [hF_21 23 (by omega)]; exact h23
            have hm_24 : Mx 25 = some (aI G 6 (nF ft)) := by rw [hF_21 25 (by omega)]; exact h25
            have hm_25 : Mx qm = some (cQuestion ad qm aa uv) := by rw [hF_21 qm (by omega)]; exact hk
            have hm_26 : Mx (qm + 3) = some (aI G 6 (nF pn)) := by rw [hF_21 (qm + 3) (by omega)]; exact q3
            have hm_27 : Mx (qm + 5) = some (aI G 24 (nF ro)) := by rw [hF_21 (qm + 5) (by omega)]; exact q5
            have hm_28 : Mx (qm + 6) = some (aI G 24 (nF te)) := by rw [hF_21 (qm + 6) (by omega)]; exact q6
            have hm_29 : Mx 8 = some (cOnes ad jn) := by rw [hF_21 8 (by omega)]; exact h8
            have hm_30 : Mx 10 = some (aI G 40 (nF lst)) := by rw [hF_21 10 (by omega)]; exact h10
            have hm_31 : Mx 16 = some (cLines ad ) := by rw [hF_21 16 (by omega)]; exact h16
            have hm_32 : Mx 17 = some (cList ad mcn ed n) := by rw [hF_21 17 (by omega)]; exact h17
            have hL_33 : LSm G ad Mx n kd fm to sz rl en := hL.keep (fun j hj => hF_21 j (by omega))
            refine lv_iload hx hb dX4_addIfFits_46 (lv_at hl 5 rfl) ?_
            refine lv_aload_n hx hb dX4_addIfFits_48 rfl (lv_at hl 0 rfl) ?_
            refine h_get (C := RX4) (T := TX4) (N := 7) hx hb hts i_RX4 hown hI hm_23 rfl 5 (by decide) f_31 rfl rfl dX4_addIfFits_49 ?_
            refine lv_iload_n hx hb dX4_addIfFits_52 rfl (lv_at hl 1 rfl) ?_
            refine k_Ri (va_runV (As := [.int (nI i)]) (rest := [.int (nI j)]) ⟨hx, hb, hml, hown, hts⟩ (c_X6_parts l G z ad Mx (k := qm) (aa := aa) (uv := uv) (pn := pn) (i := i) hm_25 hm_26 (by omega)) (cwV 1 hts (gV (lwg_of t_364 rfl) (lwg_of t_365 rfl) (lwg_of t_366 rfl) (lwg_of t_12 rfl) (lwg_of t_367 rfl)) rfl rfl rfl (by decide +kernel) ⟨Nat.le_of_ble_eq_true rfl, Nat.le_of_ble_eq_true rfl⟩) (hI.preV hm_25 rfl) rfl rfl hl.1 rfl (lv_room (Nat.le_of_ble_eq_true rfl)) dX4_addIfFits_53 ⟨Nat.le_of_ble_eq_true rfl, Nat.le_of_ble_eq_true rfl⟩) (fun _ h => h) (fun r_34 hp_35 => ?_)
            rw [hp_35]
            refine lv_icmp_ge (tgt := 158) hx hb dX4_addIfFits_56 (by decide) (fun c_36 => ?_) (fun c_36 => ?_)
            · -- 56: nI j ge
              have c_36 : pn i ≤ j := (nI_leI (a := pn i) (b := j) (by omega) (by omega)).mp (c_36)
              refine lv_aload_n hx hb dX4_addIfFits_158 rfl (lv_at hl 0 rfl) ?_
              refine h_get (C := RX4) (T := TX4) (N := 7) hx hb hts i_RX4 hown hI hm_23 rfl 1 (by decide) f_15 rfl rfl dX4_addIfFits_159 ?_
              refine lv_iload_n hx hb dX4_addIfFits_162 rfl (lv_at hl 1 rfl) ?_
              refine lv_dup2_11 hx hb dX4_addIfFits_163 rfl rfl ?_
              refine h_iald (i := i) hx hb hI hm_24 (by omega) (by decide) dX4_addIfFits_164 ?_
              refine lv_iconst (v := nI 1) hx hb dX4_addIfFits_165 (by decide) ?_
              refine lv_iadd hx hb dX4_addIfFits_166 ?_
              refine n_eq (nI_add (ft i) 1) ?_
              refine h_iast (i := i) (x := nI ((ft i) + 1)) hx hb hI hm_24 (by omega) (by decide) dX4_addIfFits_167 (fun M_37 H_38 locs_39 eM_40 hI => ?_)
              rw [upd_nF] at eM_40
              have hm_41 : M_37 23 = some (cMatcher ad qm pz) := by rw [eM_40, va_up_ne _ _ (by decide)]; exact hm_23
              have hm_42 : M_37 25 = some (aI G 6 (nF (va_up ft i ((ft i) + 1)))) := by rw [eM_40]; exact va_up_self _ _ _
              have hm_43 : M_37 qm = some (cQuestion ad qm aa uv) := by rw [eM_40, va_up_ne _ _ (by omega)]; exact hm_25
              have hm_44 : M_37 (qm + 3) = some (aI G 6 (nF pn)) := by rw [eM_40, va_up_ne _ _ (by omega)]; exact hm_26
              have hm_45 : M_37 (qm + 5) = some (aI G 24 (nF ro)) := by rw [eM_40, va_up_ne _ _ (by omega)]; exact hm_27
              have hm_46 : M_37 (qm + 6) = some (aI G 24 (nF te)) := by rw [eM_40, va_up_ne _ _ (by omega)]; exact hm_28
              have hm_47 : M_37 8 = some (cOnes ad jn) := by rw [eM_40, va_up_ne _ _ (by decide)]; exact hm_29
              have hm_48 : M_37 10 = some (aI G 40 (nF lst)) := by rw [eM_40, va_up_ne _ _ (by decide)]; exact hm_30
              have hm_49 : M_37 16 = some (cLines ad ) := by rw [eM_40, va_up_ne _ _ (by decide)]; exact hm_31
              have hm_50 : M_37 17 = some (cList ad mcn ed n) := by rw [eM_40, va_up_ne _ _ (by decide)]; exact hm_32
              have hm_51 : M_37 24 = some (aJ G 2160 g) := by rw [eM_40, va_up_ne _ _ (by decide)]; exact hm_19
              have hL_52 : LSm G ad M_37 n kd fm to sz rl en := hL_33.keep (fun j hj => by rw [eM_40, va_up_ne _ _ (by omega)])
              have hF_53 : ∀ j : Nat, j ≠ 24 → j ≠ 25 → M_37 j = M j := fun j q0 q1 => by rw [eM_40, va_up_ne _ _ q1]; exact hF_21 j q0
              subst hQ
              exact e_Nv hx hb hr hlocks hI ⟨g, _, hm_51, hm_42, (fun j q0 q1 => hF_53 j q0 q1), ⟨Or.inr ⟨rfl, ⟨(fun p9 hp => hC p9 (by omega)), (fun v hv => (by rw [show pn i = j by omega]; exact hN v hv))⟩, (by rw [show pn i = j by omega]; exact hS)⟩, ho⟩⟩ dX4_addIfFits_168
            · -- 56: nI j lt
              have c_36 : j < pn i := by have h := mt (nI_leI (a := pn i) (b := j) (by omega) (by omega)).mpr c_36; omega
              obtain ⟨hro, hte⟩ := hqw j (by omega)
              refine lv_aload_n hx hb dX4_addIfFits_59 rfl (lv_at hl 2 rfl) ?_
              refine lv_aload_n hx hb dX4_addIfFits_60 rfl (lv_at hl 0 rfl) ?_
              refine h_get (C := RX4) (T := TX4) (N := 7) hx hb hts i_RX4 hown hI hm_23 rfl 5 (by decide) f_31 rfl rfl dX4_addIfFits_61 ?_
              refine lv_iload_n hx hb dX4_addIfFits_64 rfl (lv_at hl 1 rfl) ?_
              refine lv_iload hx hb dX4_addIfFits_65 (lv_at hl 5 rfl) ?_
              refine k_Ri (va_runV (As := [.int (nI i), .int (nI j)]) (rest := [.ref (ad (100 + 5 * q + 1))]) ⟨hx, hb, hml, hown, hts⟩ (c_X6_role l G z ad Mx (k := qm) (aa := aa) (uv := uv) (ro := ro) (i := i) (j := j) hm_25 hm_27 (by omega) (by omega)) (cwV 2 hts (gV (lwg_of t_368 rfl) (lwg_of t_369 rfl) (lwg_of t_370 rfl) (lwg_of t_12 rfl) (lwg_of t_371 rfl)) rfl rfl rfl (by decide +kernel) ⟨Nat.le_of_ble_eq_true rfl, Nat.le_of_ble_eq_true rfl⟩) (hI.preV hm_25 rfl) rfl rfl hl.1 rfl (lv_room (Nat.le_of_ble_eq_true rfl)) dX4_addIfFits_67 ⟨Nat.le_of_ble_eq_true rfl, Nat.le_of_ble_eq_true rfl⟩) (fun _ h => h) (fun r_54 hp_55 => ?_)
              rw [hp_55]
              refine lv_aload_n hx hb dX4_addIfFits_70 rfl (lv_at hl 3 rfl) ?_
              refine k_Rl (va_runV (As := [.int (nI (ro (i * 4 + j))), .ref (ad 8)]) (rest := []) ⟨hx, hb, hml, hown, hts⟩ (c_X0_thingsInRole l G z ad Mx (k := 100 + 5 * q + 1) (sz := sz q) (rl := (rl q)) (th := (thE (en q))) (jn := jn) (lst := lst) (x := ro (i * 4 + j)) (hL_33.2.2 q (by omega)).2.1 (hL_33.2.2 q (by omega)).2.2.1 (hL_33.2.2 q (by omega)).2.2.2.1 hm_29 hm_30 (by omega) (thE_ok _ _) (thE_lt _ _) hlst (fun j hj => (hje j hj).1) (by omega)) (cwV 2 hts (gV (lwg_of t_372 rfl) (lwg_of t_373 rfl) (lwg_of t_374 rfl) (lwg_of t_5 rfl) (lwg_of t_375 rfl)) rfl rfl rfl (by decide +kernel) ⟨Nat.le_of_ble_eq_true rfl, Nat.le_of_ble_eq_true rfl⟩) (hI.preV (hL_33.2.2 q (by omega)).2.1 rfl) rfl rfl hl.1 rfl (lv_room (Nat.le_of_ble_eq_true rfl)) dX4_addIfFits_71 ⟨Nat.le_of_ble_eq_true rfl, Nat.le_of_ble_eq_true rfl⟩) (fun _ h => h) (fun r_56 hp_57 => ?_)
              refine lv_lstore (lv' := [(6, .long r_56), (0, .ref (ad 23)), (1, .int (nI i)), (2, .ref (ad (100 + 5 * q + 1))), (3, .ref (ad 8)), (4, .int (nI ((i * 120 + ft i) * 3))), (5, .int (nI j))]) hx hb dX4_addIfFits_74 hl (by decide) rfl (fun ls hl => ?_)
              refine lv_aload_n hx hb dX4_addIfFits_76 rfl (lv_at hl 1 rfl) ?_
              refine h_get (C := RX4) (T := TX4) (N := 7) hx hb hts i_RX4 hown hI hm_23 rfl 5 (by decide) f_31 rfl rfl dX4_addIfFits_77 ?_
              refine lv_iload_n hx hb dX4_addIfFits_80 rfl (lv_at hl 2 rfl) ?_
              refine lv_iload hx hb dX4_addIfFits_81 (lv_at hl 6 rfl) ?_
              refine k_Ri (va_runV (As := [.int (nI i), .int (nI j)]) (rest := []) ⟨hx, hb, hml, hown, hts⟩ (c_X6_term l G z ad Mx (k := qm) (aa := aa) (uv := uv) (te := te) (i := i) (j := j) hm_25 hm_28 (by omega) (by omega)) (cwV 2 hts (gV (lwg_of t_380 rfl) (lwg_of t_381 rfl) (lwg_of t_382 rfl) (lwg_of t_12 rfl) (lwg_of t_383 rfl)) rfl rfl rfl (by decide +kernel) ⟨Nat.le_of_ble_eq_true rfl, Nat.le_of_ble_eq_true rfl⟩) (hI.preV hm_25 rfl) rfl rfl hl.1 rfl (lv_room (Nat.le_of_ble_eq_true rfl)) dX4_addIfFits_83 ⟨Nat.le_of_ble_eq_true rfl, Nat.le_of_ble_eq_true rfl⟩) (fun _ h => h) (fun r_58 hp_59 => ?_)
              rw [hp_59]
              refine lv_istore (lv' := [(8, .int (nI (te (i * 4 + j)))), (6, .long r_56), (0, .ref (ad 23)), (1, .int (nI i)), (2, .ref (ad (100 + 5 * q + 1))), (3, .ref (ad 8)), (4, .int (nI ((i * 120 + ft i) * 3))), (5, .int (nI j))]) hx hb dX4_addIfFits_86 hl (by decide) rfl (fun ls hl => ?_)
              refine lv_iload hx hb dX4_addIfFits_88 (lv_at hl 0 rfl) ?_
              refine lv_bipush (v := nI 40) hx hb dX4_addIfFits_90 (by decide) ?_
              refine lv_icmp_ge (tgt := 111) hx hb dX4_addIfFits_92 (by decide) (fun c_60 => ?_) (fun c_60 => ?_)
              · -- 92: nI (te (i * 4 + j)) ge
                have c_60 : 40 ≤ te (i * 4 + j) := (nI_leI (a := 40) (b := te (i * 4 + j)) (by omega) (by omega)).mp (c_60)
                obtain ⟨w, hw9⟩ : ∃ w, te (i * 4 + j) = 40 + w := ⟨te (i * 4 + j) - 40, by omega⟩
                refine lv_lload hx hb dX4_addIfFits_111 (lv_at hl 1 rfl) ?_
                refine lv_aload_n hx hb dX4_addIfFits_113 rfl (lv_at hl 2 rfl) ?_
                refine h_get (C := RX4) (T := TX4) (N := 7) hx hb hts i_RX4 hown hI hm_23 rfl 0 (by decide) f_9 rfl rfl dX4_addIfFits_114 ?_
                refine lv_iload hx hb dX4_addIfFits_117 (lv_at hl 6 rfl) ?_
                refine lv_iload hx hb dX4_addIfFits_119 (lv_at hl 0 rfl) ?_
                refine lv_iadd hx hb dX4_addIfFits_121 ?_
                refine n_eq (nI_add ((i * 120 + ft i) * 3) (te (i * 4 + j))) ?_
                refine lv_bipush (v := nI 40) hx hb dX4_addIfFits_122 (by decide) ?_
                refine lv_isub hx hb dX4_addIfFits_124 ?_
                refine n_eq (pk_sub (a := ((i * 120 + ft i) * 3) + (te (i * 4 + j))) (b := 40) (by omega)) ?_
                refine h_lald (i := (((i * 120 + ft i) * 3) + (te (i * 4 + j))) - 40) hx hb hI hm_19 (by omega) (by decide) dX4_addIfFits_125 ?_
                refine lv_land hx hb dX4_addIfFits_126 ?_
                refine lv_lstore (lv' := [(6, .long (r_56 &&& (g ((((i * 120 + ft i) * 3) + (te (i * 4 + j))) - 40)))), (8, .int (nI (te (i * 4 + j)))), (0, .ref (ad 23)), (1, .int (nI i)), (2, .ref (ad (100 + 5 * q + 1))), (3, .ref (ad 8)), (4, .int (nI ((i * 120 + ft i) * 3))), (5, .int (nI j))]) hx hb dX4_addIfFits_127 hl (by decide) rfl (fun ls hl => ?_)
                refine lv_aload_n hx hb dX4_addIfFits_129 rfl (lv_at hl 2 rfl) ?_
                refine h_get (C := RX4) (T := TX4) (N := 7) hx hb hts i_RX4 hown hI hm_23 rfl 0 (by decide) f_9 rfl rfl dX4_addIfFits_130 ?_
                refine lv_iload hx hb dX4_addIfFits_133 (lv_at hl 6 rfl) ?_
                refine lv_iload hx hb dX4_addIfFits_135 (lv_at hl 1 rfl) ?_
                refine lv_iadd hx hb dX4_addIfFits_137 ?_
                refine n_eq (nI_add ((i * 120 + ft i) * 3) (te (i * 4 + j))) ?_
                refine lv_bipush (v := nI 40) hx hb dX4_addIfFits_138 (by decide) ?_
                refine lv_isub hx hb dX4_addIfFits_140 ?_
                refine n_eq (pk_sub (a := ((i * 120 + ft i) * 3) + (te (i * 4 + j))) (b := 40) (by omega)) ?_
                refine lv_lload hx hb dX4_addIfFits_141 (lv_at hl 0 rfl) ?_
                refine h_last (i := (((i * 120 + ft i) * 3) + (te (i * 4 + j))) - 40) (x := r_56 &&& (g ((((i * 120 + ft i) * 3) + (te (i * 4 + j))) - 40))) hx hb hI hm_19 (by omega) (by decide) dX4_addIfFits_143 (fun M_61 H_62 locs_63 eM_64 hI => ?_)
                have hm_65 : M_61 23 = some (cMatcher ad qm pz) := by rw [eM_64, va_up_ne _ _ (by decide)]; exact hm_23
                have hm_66 : M_61 25 = some (aI G 6 (nF ft)) := by rw [eM_64, va_up_ne _ _ (by decide)]; exact hm_24
                have hm_67 : M_61 qm = some (cQuestion ad qm aa uv) := by rw [eM_64, va_up_ne _ _ (by omega)]; exact hm_25
                have hm_68 : M_61 (qm + 3) = some (aI G 6 (nF pn)) := by rw [eM_64, va_up_ne _ _ (by omega)]; exact hm_26
                have hm_69 : M_61 (qm + 5) = some (aI G 24 (nF ro)) := by rw [eM_64, va_up_ne _ _ (by omega)]; exact hm_27
                have hm_70 : M_61 (qm + 6) = some (aI G 24 (nF te)) := by rw [eM_64, va_up_ne _ _ (by omega)]; exact hm_28
                have hm_71 : M_61 8 = some (cOnes ad jn) := by rw [eM_64, va_up_ne _ _ (by decide)]; exact hm_29
                have hm_72 : M_61 10 = some (aI G 40 (nF lst)) := by rw [eM_64, va_up_ne _ _ (by decide)]; exact hm_30
                have hm_73 : M_61 16 = some (cLines ad ) := by rw [eM_64, va_up_ne _ _ (by decide)]; exact hm_31
                have hm_74 : M_61 17 = some (cList ad mcn ed n) := by rw [eM_64, va_up_ne _ _ (by decide)]; exact hm_32
                have hm_75 : M_61 24 = some (aJ G 2160 (vp_updL g ((((i * 120 + ft i) * 3) + (te (i * 4 + j))) - 40) (r_56 &&& (g ((((i * 120 + ft i) * 3) + (te (i * 4 + j))) - 40))))) := by rw [eM_64]; exact va_up_self _ _ _
                have hL_76 : LSm G ad M_61 n kd fm to sz rl en := hL_33.keep (fun j hj => by rw [eM_64, va_up_ne _ _ (by omega)])
                have hF_77 : ∀ j : Nat, j ≠ 24 → M_61 j = M j := fun j q0 => by rw [eM_64, va_up_ne _ _ q0]; exact hF_21 j q0
                refine lv_lload hx hb dX4_addIfFits_144 (lv_at hl 0 rfl) ?_
                refine lv_lconst (v := 0) hx hb dX4_addIfFits_146 (by decide) ?_
                refine W.lcmp hx hb dX4_addIfFits_147 ?_
                refine lv_if_ne (tgt := 152) hx hb dX4_addIfFits_148 (by decide) (fun c_78 => ?_) (fun c_78 => ?_)
                · -- 148: lg_cmp (r_56 &&& (g ((((i * 120 + ft i) * 3) + (te (i * 4 +  ne
                  have c_78 : r_56 &&& (g ((((i * 120 + ft i) * 3) + (te (i * 4 + j))) - 40)) ≠ (0 : Int64) := (fun h => c_78 ((lg_cmp_eq _ _).mpr h))
                  refine lv_iinc (v := nI (j + 1)) (lv' := [(5, .int (nI (j + 1))), (6, .long (r_56 &&& (g ((((i * 120 + ft i) * 3) + (te (i * 4 + j))) - 40)))), (8, .int (nI (te (i * 4 + j)))), (0, .ref (ad 23)), (1, .int (nI i)), (2, .ref (ad (100 + 5 * q + 1))), (3, .ref (ad 8)), (4, .int (nI ((i * 120 + ft i) * 3)))]) hx hb dX4_addIfFits_152 hl (k := 7) rfl (nI_add j 1) (by decide) rfl (fun ls hl => ?_)
                  refine lv_goto (tgt := 46) hx hb dX4_addIfFits_155 (by decide) ?_
                  exact ih_22 (j + 1) (vp_updL g ((((i * 120 + ft i) * 3) + (te (i * 4 + j))) - 40) (r_56 &&& (g ((((i * 120 + ft i) * 3) + (te (i * 4 + j))) - 40)))) M_61 H_62 locs_63 ls (by omega) (by omega) (hS_v hS hp_57 (w := w) hw9 (by omega)) (hN_v hS hN hp_57 (w := w) (x := (i * 120 + ft i) * 3 + te (i * 4 + j) - 40) hw9 (by omega) (by omega) (by assumption)) (lt_s2 hC (fun h => absurd h (by omega))) (oth3_up ho (by omega) (by omega)) hI hm_75 (fun j q0 => hF_77 j q0) (lv_sub hl [3, 4, 5, 6, 7, 0] rfl)
                · -- 148: lg_cmp (r_56 &&& (g ((((i * 120 + ft i) * 3) + (te (i * 4 +  eq
                  have c_78 : r_56 &&& (g ((((i * 120 + ft i) * 3) + (te (i * 4 + j))) - 40)) = (0 : Int64) := (lg_cmp_eq _ _).mp c_78
                  subst hQ
                  exact e_Nv hx hb hr hlocks hI ⟨vp_updL g ((((i * 120 + ft i) * 3) + (te (i * 4 + j))) - 40) (r_56 &&& (g ((((i * 120 + ft i) * 3) + (te (i * 4 + j))) - 40))), ft, hm_75, hm_66, (fun j q0 q1 => hF_77 j q0), ⟨Or.inl ⟨rfl, nF_v hS hp_57 (w := w) (x := (i * 120 + ft i) * 3 + te (i * 4 + j) - 40) hw9 (by omega) (by omega) (by omega) (by assumption)⟩, (oth3_up ho (by omega) (by omega))⟩⟩ dX4_addIfFits_151
              · -- 92: nI (te (i * 4 + j)) lt
                have c_60 : te (i * 4 + j) < 40 := by have h := mt (nI_leI (a := 40) (b := te (i * 4 + j)) (by omega) (by omega)).mpr c_60; omega
                have hlt := hlst (te (i * 4 + j)) (by omega)
                refine lv_lload hx hb dX4_addIfFits_95 (lv_at hl 1 rfl) ?_
                refine lv_lconst (v := 1) hx hb dX4_addIfFits_97 (by decide) ?_
                refine lv_aload_n hx hb dX4_addIfFits_98 rfl (lv_at hl 5 rfl) ?_
                refine lv_iload hx hb dX4_addIfFits_99 (lv_at hl 0 rfl) ?_
                refine k_Ri (va_runV (As := [.int (nI (te (i * 4 + j)))]) (rest := [.long (1 : Int64), .long r_56]) ⟨hx, hb, hml, hown, hts⟩ (c_X5_of l G z ad Mx (jn := jn) (lst := lst) (t := te (i * 4 + j)) hm_29 hm_30 (by omega)) (cwV 1 hts (gV (lwg_of t_384 rfl) (lwg_of t_377 rfl) (lwg_of t_378 rfl) (lwg_of t_4 rfl) (lwg_of t_379 rfl)) rfl rfl rfl (by decide +kernel) ⟨Nat.le_of_ble_eq_true rfl, Nat.le_of_ble_eq_true rfl⟩) (hI.preV hm_29 rfl) rfl rfl hl.1 rfl (lv_room (Nat.le_of_ble_eq_true rfl)) dX4_addIfFits_101 ⟨Nat.le_of_ble_eq_true rfl, Nat.le_of_ble_eq_true rfl⟩) (fun _ h => h) (fun r_79 hp_80 => ?_)
                rw [hp_80]
                refine lv_lshl (v := (1 : Int64) <<< ((nI (lst (te (i * 4 + j)))).toInt64 &&& 63)) hx hb dX4_addIfFits_104 rfl ?_
                refine lv_land hx hb dX4_addIfFits_105 ?_
                refine lv_lstore (lv' := [(6, .long (r_56 &&& ((1 : Int64) <<< ((nI (lst (te (i * 4 + j)))).toInt64 &&& 63)))), (8, .int (nI (te (i * 4 + j)))), (0, .ref (ad 23)), (1, .int (nI i)), (2, .ref (ad (100 + 5 * q + 1))), (3, .ref (ad 8)), (4, .int (nI ((i * 120 + ft i) * 3))), (5, .int (nI j))]) hx hb dX4_addIfFits_106 hl (by decide) rfl (fun ls hl => ?_)
                refine lv_goto (tgt := 144) hx hb dX4_addIfFits_108 (by decide) ?_
                refine lv_lload hx hb dX4_addIfFits_144 (lv_at hl 0 rfl) ?_
                refine lv_lconst (v := 0) hx hb dX4_addIfFits_146 (by decide) ?_
                refine W.lcmp hx hb dX4_addIfFits_147 ?_
                refine lv_if_ne (tgt := 152) hx hb dX4_addIfFits_148 (by decide) (fun c_81 => ?_) (fun c_81 => ?_)
                · -- 148: lg_cmp (r_56 &&& ((1 : Int64) <<< ((nI (lst (te (i * 4 + j)) ne
                  have c_81 : r_56 &&& ((1 : Int64) <<< ((nI (lst (te (i * 4 + j)))).toInt64 &&& 63)) ≠ (0 : Int64) := (fun h => c_81 ((lg_cmp_eq _ _).mpr h))
                  refine lv_iinc (v := nI (j + 1)) (lv' := [(5, .int (nI (j + 1))), (6, .long (r_56 &&& ((1 : Int64) <<< ((nI (lst (te (i * 4 + j)))).toInt64 &&& 63)))), (8, .int (nI (te (i * 4 + j)))), (0, .ref (ad 23)), (1, .int (nI i)), (2, .ref (ad (100 + 5 * q + 1))), (3, .ref (ad 8)), (4, .int (nI ((i * 120 + ft i) * 3)))]) hx hb dX4_addIfFits_152 hl (k := 7) rfl (nI_add j 1) (by decide) rfl (fun ls hl => ?_)
                  refine lv_goto (tgt := 46) hx hb dX4_addIfFits_155 (by decide) ?_
                  exact ih_22 (j + 1) g Mx Hx locsx ls (by omega) (by omega) (hS_t hS (by omega)) (hN_t hN (by omega)) (lt_s2 hC (fun _ => hC_t hp_57 hlt (by assumption))) (ho) hI hm_19 (fun j q0 => hF_21 j q0) (lv_sub hl [3, 4, 5, 6, 7, 0] rfl)
                · -- 148: lg_cmp (r_56 &&& ((1 : Int64) <<< ((nI (lst (te (i * 4 + j)) eq
                  have c_81 : r_56 &&& ((1 : Int64) <<< ((nI (lst (te (i * 4 + j)))).toInt64 &&& 63)) = (0 : Int64) := (lg_cmp_eq _ _).mp c_81
                  subst hQ
                  exact e_Nv hx hb hr hlocks hI ⟨g, ft, hm_19, hm_24, (fun j q0 q1 => hF_21 j q0), ⟨Or.inl ⟨rfl, nF_t hp_57 hlt (by omega) (by omega) (by assumption)⟩, ho⟩⟩ dX4_addIfFits_151
        exact lp46_18 ((pn i - 0) + 1) 0 g Mx Hx locsx ls (Nat.lt_succ_self _) (by omega) (sV_0 (fun v hv => hA v (by omega))) (fun v hv => ⟨0, by decide, fun p9 hp => absurd hp (Nat.not_lt_zero p9)⟩) (fun p9 hp => absurd hp (Nat.not_lt_zero p9)) (ho) hI hm_2 (fun j q0 => hF_4 j q0) (lv_sub hl [1, 2, 3, 4, 5, 0] rfl)
      · -- 21: nI j lt
        have c_17 : j < 3 := by have h := mt (nI_leI (a := 3) (b := j) (by omega) (by omega)).mpr c_17; omega
        refine lv_aload_n hx hb dX4_addIfFits_24 rfl (lv_at hl 0 rfl) ?_
        refine h_get (C := RX4) (T := TX4) (N := 7) hx hb hts i_RX4 hown hI hm_6 rfl 0 (by decide) f_9 rfl rfl dX4_addIfFits_25 ?_
        refine lv_iload hx hb dX4_addIfFits_28 (lv_at hl 4 rfl) ?_
        refine lv_iload hx hb dX4_addIfFits_30 (lv_at hl 5 rfl) ?_
        refine lv_iadd hx hb dX4_addIfFits_32 ?_
        refine n_eq (nI_add ((i * 120 + ft i) * 3) j) ?_
        refine lv_ldc2 hx hb hown k_101 dX4_addIfFits_33 ?_
        refine h_last (i := ((i * 120 + ft i) * 3) + j) (x := 1099511627775) hx hb hI hm_2 (by omega) (by decide) dX4_addIfFits_36 (fun M_82 H_83 locs_84 eM_85 hI => ?_)
        have hm_86 : M_82 23 = some (cMatcher ad qm pz) := by rw [eM_85, va_up_ne _ _ (by decide)]; exact hm_6
        have hm_87 : M_82 25 = some (aI G 6 (nF ft)) := by rw [eM_85, va_up_ne _ _ (by decide)]; exact hm_7
        have hm_88 : M_82 qm = some (cQuestion ad qm aa uv) := by rw [eM_85, va_up_ne _ _ (by omega)]; exact hm_8
        have hm_89 : M_82 (qm + 3) = some (aI G 6 (nF pn)) := by rw [eM_85, va_up_ne _ _ (by omega)]; exact hm_9
        have hm_90 : M_82 (qm + 5) = some (aI G 24 (nF ro)) := by rw [eM_85, va_up_ne _ _ (by omega)]; exact hm_10
        have hm_91 : M_82 (qm + 6) = some (aI G 24 (nF te)) := by rw [eM_85, va_up_ne _ _ (by omega)]; exact hm_11
        have hm_92 : M_82 8 = some (cOnes ad jn) := by rw [eM_85, va_up_ne _ _ (by decide)]; exact hm_12
        have hm_93 : M_82 10 = some (aI G 40 (nF lst)) := by rw [eM_85, va_up_ne _ _ (by decide)]; exact hm_13
        have hm_94 : M_82 16 = some (cLines ad ) := by rw [eM_85, va_up_ne _ _ (by decide)]; exact hm_14
        have hm_95 : M_82 17 = some (cList ad mcn ed n) := by rw [eM_85, va_up_ne _ _ (by decide)]; exact hm_15
        have hm_96 : M_82 24 = some (aJ G 2160 (vp_updL g (((i * 120 + ft i) * 3) + j) 1099511627775)) := by rw [eM_85]; exact va_up_self _ _ _
        have hL_97 : LSm G ad M_82 n kd fm to sz rl en := hL_16.keep (fun j hj => by rw [eM_85, va_up_ne _ _ (by omega)])
        have hF_98 : ∀ j : Nat, j ≠ 24 → M_82 j = M j := fun j q0 => by rw [eM_85, va_up_ne _ _ q0]; exact hF_4 j q0
        refine lv_iinc (v := nI (j + 1)) (lv' := [(5, .int (nI (j + 1))), (0, .ref (ad 23)), (1, .int (nI i)), (2, .ref (ad (100 + 5 * q + 1))), (3, .ref (ad 8)), (4, .int (nI ((i * 120 + ft i) * 3)))]) hx hb dX4_addIfFits_37 hl (k := 5) rfl (nI_add j 1) (by decide) rfl (fun ls hl => ?_)
        refine lv_goto (tgt := 18) hx hb dX4_addIfFits_40 (by decide) ?_
        exact ih_5 (j + 1) (vp_updL g (((i * 120 + ft i) * 3) + j) 1099511627775) M_82 H_83 locs_84 ls (by omega) (by omega) (lt_s2 (fun v hv => (updL_ne _ _ (by omega)).trans (hA v hv)) (updL_self _ _ _)) (oth3_up ho (by omega) (by omega)) hI hm_96 (fun j q0 => hF_98 j q0) (lv_sub hl [1, 2, 3, 4, 5, 0] rfl)
  exact lp18_1 ((3 - 0) + 1) 0 sx M s.heap [] ls (Nat.lt_succ_self _) (by omega) (fun v hv => absurd hv (Nat.not_lt_zero v)) (fun _ _ => rfl) hI h24 (fun j _ => rfl) (lv_sub hl [2, 3, 4, 5, 1, 0] rfl)
