/-! new cells: the rows that the walks of constructors want -/
theorem ha_int (n : Nat) (cA : ClassId) : vp_cell cA (n, .inl (nF (fun _ => 0))) = arrV cA n (fun _ => defaultValue .int) := rfl
theorem ha_boolean (n : Nat) (cA : ClassId) : vp_cell cA (n, .inl (bF (fun _ => false))) = arrV cA n (fun _ => defaultValue .boolean) := rfl
theorem ha_byte (n : Nat) (cA : ClassId) : vp_cell cA (n, .inl (fun _ => 0)) = arrV cA n (fun _ => defaultValue .byte) := rfl
theorem ha_long (n : Nat) (cA : ClassId) : vp_cell cA (n, .inr (.inl (fun _ => 0))) = arrV cA n (fun _ => defaultValue .long) := rfl
def Aq (G : GG) (z : Nat) (post : Option Nat → (Nat → Nat) × Mem → Prop) := va_Qq post (fun (u : (Nat → Nat) × Mem) t => Hd G z u.1 u.2 t.heap) (fr z)
section NC
variable {p : Program} {l : Launch} {e : Env} {R : Room} {s : State} {m : MethodId} {args : Array Value} {below : List Frame} {meth : Method} {c : Code} {H : Heap} {locs : List Loc} {cells slots : Nat} {Q : State → Prop}
variable {G : GG} {z : Nat} {ad : Nat → Nat} {M : Mem} {cc : ByteArray} {pc : Nat} {ls : Array Slot} {rest : List Value}
theorem n_eqs {st st' : List Value} (h : st = st') (k : W p l e R s m args below meth c H locs cells slots Q (F0 m pc ls st')) : W p l e R s m args below meth c H locs cells slots Q (F0 m pc ls st) := h ▸ k
theorem k_Aq {mc ms : Nat} {post : Option Nat → (Nat → Nat) × Mem → Prop} {a : Array Value} {st0 : List Value} (hr : va_Run p l e R s m args below meth c H locs cells slots mc ms (F0 m pc ls st0) rest (Aq G z post a) (fr z)) (hI : Iv G z ad M s H locs)
    (kk : ∀ (r : Option Nat) (ad1 : Nat → Nat) (M1 : Mem) (H1 : Heap) (locs1 : List Loc), post r (ad1, M1) → Iv G z ad1 M1 s H1 locs1 → W p l e R s m args below meth c H1 locs1 (cells + mc) (slots + ms) Q (F0 m (pc + 3) ls (va_rf r :: rest))) : W p l e R s m args below meth c H locs cells slots Q (F0 m pc ls st0) :=
  va_callq hr hI.S (fun _ _ h => h) (fun _ h => h) (fun r u t H1 locs1 ht hvm hp hB _ _ hS1 => kk r u.1 u.2 H1 locs1 hp ⟨hI.1, by rw [← ht]; exact hB, hS1, hI.2.2.2⟩)
theorem e_Aq {post : Option Nat → (Nat → Nat) × Mem → Prop} {v : Nat} (hx : p.tables.exec = Jvm.exec) (hb : c.code = cc) {rt : FieldType} (hr : meth.sig.returnType = some rt) (hrt : (∃ n, rt = .object n) ∨ ∃ t, rt = .array t) (hlocks : meth.locks = false) (hI : Iv G z ad M s H locs) (hp : post (some v) (ad, M)) (hdg : decode cc pc = .ok (.areturn, 1)) : W p l e R s m args below meth c H locs cells slots (MQ below (Aq G z post) args s cells slots (fr z)) (F0 m pc ls [.ref v]) :=
  W.aret hx hb hr hrt (Or.inr ⟨v, rfl⟩) (fun t ht hW => ⟨⟨some v, (ad, M), rfl, hp, by show Hd G z ad M t.heap; rw [ht]; exact hI.2.1⟩, hI.S.F ht⟩) hI.S.2.2 hdg hlocks
theorem iv_emp (hI : Iv G z ad M s H locs) : va_Z "java/util/ArrayList" "DEFAULTCAPACITY_EMPTY_ELEMENTDATA" "[Ljava/lang/Object;" (.ref G.2.2.2.2) (fr z) s s.heap := hI.1.2.2.2.2.2.1
end NC

/-- X8_init -/
abbrev rm_c_X8_init : Room := { frames := 1, cells := 1, slots := 400, locals := 20 }
set_option maxHeartbeats 4000000 in
set_option maxRecDepth 100000 in
theorem c_X8_init (l : Launch) (G : GG) (z : Nat) (ad : Nat → Nat) (M : Mem)  (h1 : M 1 = some (.inr (9, [.null, .int (nI 0)]))) (fre0 : M 2 = none) : Met l yX8_init wsX8_init rm_c_X8_init (Pr G z ad M [.ref (ad 1)]) (Av G z (fun (u : (Nat → Nat) × Mem) => u.2 1 = some (cTape u.1 0) ∧ u.2 2 = some (aI G 400 (nF (fun _ => 0))) ∧ (∀ j : Nat, j ≠ 1 → j ≠ 2 → u.2 j = M j) ∧ (∀ j : Nat, j ≠ 2 → u.1 j = ad j))) 1 400 (fr z) := by
  refine Met.ofW (cc := cX8_init) (maxL := 1) (ret := none) (by decide) rfl ?_
  intro p e s m args below meth c s₁ B hml hv
  obtain ⟨rfl, hv⟩ := hv
  have hI := Iv.entry hv
  have hx := B.exec
  have hb := B.bytes
  have hr := B.returns
  have hts := atoms_spec (ws := wsX8_init) B.pre
  have hown : s.vm.findClass RX8 = some m.cls := findClass_of_methodNamed B.named
  have hlocks := B.notSynchronized
  have hini : meth.name = "<init>" := (name_of_methodNamed B.named B.method).1
  have m_3 := hts _ (List.mem_cons_of_mem _ (lwg_of t_46 rfl))
  have n_oi := hts _ (List.mem_cons_of_mem _ (lwg_of t_39 rfl))
  have n_oc := hts _ (List.mem_cons_of_mem _ (lwg_of t_40 rfl))
  have na_int := hts _ (List.mem_cons_of_mem _ (lwg_of t_54 rfl))
  have f_9 := hts _ (List.mem_cons_of_mem _ (lwg_of t_47 rfl))
  have i_RX8 : ∀ w ∈ u_ws RX8 TX8 2, w ∈ wsX8_init := fun w h => List.mem_cons_of_mem _ (iu_X8 w h)
  have hl := lv_entry ([.ref (ad 1)]) (n := 1) (Nat.le_of_ble_eq_true rfl)
  rw [lg_entry_eq]
  generalize (lg_sl ([.ref (ad 1)]) ++ List.replicate (1 - (lg_sl ([.ref (ad 1)])).length) Slot.unset).toArray = ls at hl ⊢
  have hl : lv_has ls 1 [(0, .ref (ad 1))] := hl
  refine lv_aload_n hx hb dX8_init_0 rfl (lv_at hl 0 rfl) ?_
  refine W.objInit hx hb hown m_3 n_oi n_oc rfl (by rw [hml]; exact hl.1) rfl dX8_init_1 (Nat.le_of_ble_eq_true rfl) (Nat.le_of_ble_eq_true rfl) ?_
  refine W.eq (g2 := F0 m 4 ls []) rfl ?_
  refine lv_aload_n hx hb dX8_init_4 rfl (lv_at hl 0 rfl) ?_
  refine lv_sipush (v := nI 400) hx hb dX8_init_5 (by decide) ?_
  refine h_newa (atype := .int) (n := 400) (a0 := (400, .inl (nF (fun _ => 0)))) hx hb na_int 0 (ty := .int) rfl rfl (fun C h => by cases h) hI (ha_int 400) (by decide) (by decide) (Nat.le_of_ble_eq_true rfl) (Nat.le_of_ble_eq_true rfl) dX8_init_8 2 fre0 (fun ad_1 M_2 H_3 hA_4 eM_5 hI => ?_)
  have hAd_7 : ∀ j : Nat, j ≠ 2 → ad_1 j = ad j := fun j hj => by obtain ⟨q, e⟩ := hA_4; rw [e]; exact va_up_ne _ _ hj
  have hm_8 : M_2 2 = some (aI G 400 (nF (fun _ => 0))) := by rw [eM_5]; exact va_up_self _ _ _
  have hm_9 : M_2 1 = some (.inr (9, [.null, .int (nI 0)])) := by rw [eM_5, va_up_ne _ _ (by decide), h1]
  have hF_10 : ∀ j : Nat, j ≠ 2 → M_2 j = M j := fun j q0 => by rw [eM_5, va_up_ne _ _ q0]
  refine n_eqs (show ([.ref (ad_1 2), .ref (ad 1)] : List Value) = [.ref (ad_1 2), .ref (ad_1 1)] from by rw [hAd_7 1 (by decide)]) ?_
  refine h_putF (C := RX8) (T := TX8) (N := 2) hx hb hts i_RX8 tyX8 tyX8_ok nmX8 hown hI hm_9 rfl 0 (by decide) f_9 rfl rfl hini rfl rfl rfl (Nat.le_of_ble_eq_true rfl) dX8_init_10 (fun M_11 H_12 locs_13 eM_14 hI => ?_)
  have hm_15 : M_11 1 = some (.inr (9, [.ref (ad_1 2), .int (nI 0)])) := by rw [eM_14]; exact va_up_self _ _ _
  have hm_16 : M_11 2 = some (aI G 400 (nF (fun _ => 0))) := by rw [eM_14, va_up_ne _ _ (by decide)]; exact hm_8
  have hF_17 : ∀ j : Nat, j ≠ 2 → j ≠ 1 → M_11 j = M j := fun j q0 q1 => by rw [eM_14, va_up_ne _ _ q1]; exact hF_10 j q0
  clear hm_9 hm_8 hF_10
  exact e_Av hx hb hr hlocks hI ⟨hm_15, hm_16, (fun j q0 q1 => hF_17 j q1 q0), (fun j q0 => (by show ad_1 j = ad j; rw [hAd_7 j q0]))⟩ dX8_init_13

/-- X7_init -/
abbrev rm_c_X7_init : Room := { frames := 1, cells := 0, slots := 0, locals := 20 }
set_option maxHeartbeats 4000000 in
set_option maxRecDepth 100000 in
theorem c_X7_init (l : Launch) (G : GG) (z : Nat) (ad : Nat → Nat) (M : Mem)  (h22 : M 22 = some (.inr (8, [.int (nI 0), .int (nI 0), .int (nI 0), .int (nI 0)])))  : Met l yX7_init wsX7_init rm_c_X7_init (Pr G z ad M [.ref (ad 22)]) (Nv G z ad (fun (M' : Mem) => M' 22 = some (cReader ad 0 0 (nI 0) (nI 0)) ∧ (∀ j : Nat, j ≠ 22 → M' j = M j))) 0 0 (fr z) := by
  refine Met.ofW (cc := cX7_init) (maxL := 1) (ret := none) (by decide) rfl ?_
  intro p e s m args below meth c s₁ B hml hv
  obtain ⟨rfl, hv⟩ := hv
  have hI := Iv.entry hv
  have hx := B.exec
  have hb := B.bytes
  have hr := B.returns
  have hts := atoms_spec (ws := wsX7_init) B.pre
  have hown : s.vm.findClass RX7 = some m.cls := findClass_of_methodNamed B.named
  have hlocks := B.notSynchronized
  have hini : meth.name = "<init>" := (name_of_methodNamed B.named B.method).1
  have m_3 := hts _ (List.mem_cons_of_mem _ (lwg_of t_163 rfl))
  have n_oi := hts _ (List.mem_cons_of_mem _ (lwg_of t_39 rfl))
  have n_oc := hts _ (List.mem_cons_of_mem _ (lwg_of t_40 rfl))
  have hl := lv_entry ([.ref (ad 22)]) (n := 1) (Nat.le_of_ble_eq_true rfl)
  rw [lg_entry_eq]
  generalize (lg_sl ([.ref (ad 22)]) ++ List.replicate (1 - (lg_sl ([.ref (ad 22)])).length) Slot.unset).toArray = ls at hl ⊢
  have hl : lv_has ls 1 [(0, .ref (ad 22))] := hl
  refine lv_aload_n hx hb dX7_init_0 rfl (lv_at hl 0 rfl) ?_
  refine W.objInit hx hb hown m_3 n_oi n_oc rfl (by rw [hml]; exact hl.1) rfl dX7_init_1 (Nat.le_of_ble_eq_true rfl) (Nat.le_of_ble_eq_true rfl) ?_
  refine W.eq (g2 := F0 m 4 ls []) rfl ?_
  exact e_Nv hx hb hr hlocks hI ⟨h22, (fun j _ => rfl)⟩ dX7_init_4

/-- X0_init -/
abbrev rm_c_X0_init : Room := { frames := 1, cells := 3, slots := 18, locals := 20 }
set_option maxHeartbeats 4000000 in
set_option maxRecDepth 100000 in
theorem c_X0_init (l : Launch) (G : GG) (z : Nat) (ad : Nat → Nat) (M : Mem) {k : Nat} (hk : M k = some (.inr (1, [.null, .null, .null, .int (nI 0)]))) (fre0 : M (k + 1) = none) (fre1 : M (k + 2) = none) (fre2 : M (k + 3) = none) : Met l yX0_init wsX0_init rm_c_X0_init (Pr G z ad M [.ref (ad k)]) (Av G z (fun (u : (Nat → Nat) × Mem) => u.2 k = some (cEnds u.1 k 0) ∧ u.2 (k + 1) = some (aI G 6 (nF (fun _ => 0))) ∧ u.2 (k + 2) = some (aI G 6 (nF (fun _ => 0))) ∧ u.2 (k + 3) = some (aI G 6 (nF (fun _ => 0))) ∧ (∀ j : Nat, j ≠ k → j ≠ (k + 1) → j ≠ (k + 2) → j ≠ (k + 3) → u.2 j = M j) ∧ (∀ j : Nat, j ≠ (k + 1) → j ≠ (k + 2) → j ≠ (k + 3) → u.1 j = ad j))) 3 18 (fr z) := by
  refine Met.ofW (cc := cX0_init) (maxL := 1) (ret := none) (by decide) rfl ?_
  intro p e s m args below meth c s₁ B hml hv
  obtain ⟨rfl, hv⟩ := hv
  have hI := Iv.entry hv
  have hx := B.exec
  have hb := B.bytes
  have hr := B.returns
  have hts := atoms_spec (ws := wsX0_init) B.pre
  have hown : s.vm.findClass RX0 = some m.cls := findClass_of_methodNamed B.named
  have hlocks := B.notSynchronized
  have hini : meth.name = "<init>" := (name_of_methodNamed B.named B.method).1
  have m_3 := hts _ (List.mem_cons_of_mem _ (lwg_of t_99 rfl))
  have n_oi := hts _ (List.mem_cons_of_mem _ (lwg_of t_39 rfl))
  have n_oc := hts _ (List.mem_cons_of_mem _ (lwg_of t_40 rfl))
  have na_int := hts _ (List.mem_cons_of_mem _ (lwg_of t_54 rfl))
  have f_9 := hts _ (List.mem_cons_of_mem _ (lwg_of t_100 rfl))
  have i_RX0 : ∀ w ∈ u_ws RX0 TX0 4, w ∈ wsX0_init := fun w h => List.mem_cons_of_mem _ (iu_X0 w h)
  have f_15 := hts _ (List.mem_cons_of_mem _ (lwg_of t_101 rfl))
  have f_18 := hts _ (List.mem_cons_of_mem _ (lwg_of t_102 rfl))
  have hl := lv_entry ([.ref (ad k)]) (n := 1) (Nat.le_of_ble_eq_true rfl)
  rw [lg_entry_eq]
  generalize (lg_sl ([.ref (ad k)]) ++ List.replicate (1 - (lg_sl ([.ref (ad k)])).length) Slot.unset).toArray = ls at hl ⊢
  have hl : lv_has ls 1 [(0, .ref (ad k))] := hl
  refine lv_aload_n hx hb dX0_init_0 rfl (lv_at hl 0 rfl) ?_
  refine W.objInit hx hb hown m_3 n_oi n_oc rfl (by rw [hml]; exact hl.1) rfl dX0_init_1 (Nat.le_of_ble_eq_true rfl) (Nat.le_of_ble_eq_true rfl) ?_
  refine W.eq (g2 := F0 m 4 ls []) rfl ?_
  refine lv_aload_n hx hb dX0_init_4 rfl (lv_at hl 0 rfl) ?_
  refine lv_bipush (v := nI 6) hx hb dX0_init_5 (by decide) ?_
  refine h_newa (atype := .int) (n := 6) (a0 := (6, .inl (nF (fun _ => 0)))) hx hb na_int 0 (ty := .int) rfl rfl (fun C h => by cases h) hI (ha_int 6) (by decide) (by decide) (Nat.le_of_ble_eq_true rfl) (Nat.le_of_ble_eq_true rfl) dX0_init_7 (k + 1) fre0 (fun ad_1 M_2 H_3 hA_4 eM_5 hI => ?_)
  have hAd_7 : ∀ j : Nat, j ≠ (k + 1) → ad_1 j = ad j := fun j hj => by obtain ⟨q, e⟩ := hA_4; rw [e]; exact va_up_ne _ _ hj
  have hm_8 : M_2 (k + 1) = some (aI G 6 (nF (fun _ => 0))) := by rw [eM_5]; exact va_up_self _ _ _
  have hm_9 : M_2 k = some (.inr (1, [.null, .null, .null, .int (nI 0)])) := by rw [eM_5, va_up_ne _ _ (by omega), hk]
  have fr_10 : M_2 (k + 2) = none := by rw [eM_5, va_up_ne _ _ (by omega)]; exact fre1
  have fr_11 : M_2 (k + 3) = none := by rw [eM_5, va_up_ne _ _ (by omega)]; exact fre2
  have hF_12 : ∀ j : Nat, j ≠ (k + 1) → M_2 j = M j := fun j q0 => by rw [eM_5, va_up_ne _ _ q0]
  refine n_eqs (show ([.ref (ad_1 (k + 1)), .ref (ad k)] : List Value) = [.ref (ad_1 (k + 1)), .ref (ad_1 k)] from by rw [hAd_7 k (by omega)]) ?_
  refine h_putF (C := RX0) (T := TX0) (N := 4) hx hb hts i_RX0 tyX0 tyX0_ok nmX0 hown hI hm_9 rfl 0 (by decide) f_9 rfl rfl hini rfl rfl rfl (Nat.le_of_ble_eq_true rfl) dX0_init_9 (fun M_13 H_14 locs_15 eM_16 hI => ?_)
  have hm_17 : M_13 k = some (.inr (1, [.ref (ad_1 (k + 1)), .null, .null, .int (nI 0)])) := by rw [eM_16]; exact va_up_self _ _ _
  have hm_18 : M_13 (k + 1) = some (aI G 6 (nF (fun _ => 0))) := by rw [eM_16, va_up_ne _ _ (by omega)]; exact hm_8
  have fr_19 : M_13 (k + 2) = none := by rw [eM_16, va_up_ne _ _ (by omega)]; exact fr_10
  have fr_20 : M_13 (k + 3) = none := by rw [eM_16, va_up_ne _ _ (by omega)]; exact fr_11
  have hF_21 : ∀ j : Nat, j ≠ (k + 1) → j ≠ k → M_13 j = M j := fun j q0 q1 => by rw [eM_16, va_up_ne _ _ q1]; exact hF_12 j q0
  clear hm_9 hm_8 fr_10 fr_11 hF_12
  refine lv_aload_n hx hb dX0_init_12 rfl (lv_at hl 0 rfl) ?_
  refine n_eqv (show Value.ref (ad k) = .ref (ad_1 k) from by rw [hAd_7 k (by omega)]) ?_
  refine lv_bipush (v := nI 6) hx hb dX0_init_13 (by decide) ?_
  refine h_newa (atype := .int) (n := 6) (a0 := (6, .inl (nF (fun _ => 0)))) hx hb na_int 0 (ty := .int) rfl rfl (fun C h => by cases h) hI (ha_int 6) (by decide) (by decide) (Nat.le_of_ble_eq_true rfl) (Nat.le_of_ble_eq_true rfl) dX0_init_15 (k + 2) fr_19 (fun ad_22 M_23 H_24 hA_25 eM_26 hI => ?_)
  have hAd_28 : ∀ j : Nat, j ≠ (k + 2) → ad_22 j = ad_1 j := fun j hj => by obtain ⟨q, e⟩ := hA_25; rw [e]; exact va_up_ne _ _ hj
  have hm_29 : M_23 (k + 2) = some (aI G 6 (nF (fun _ => 0))) := by rw [eM_26]; exact va_up_self _ _ _
  have hm_30 : M_23 k = some (.inr (1, [.ref (ad_22 (k + 1)), .null, .null, .int (nI 0)])) := by rw [eM_26, va_up_ne _ _ (by omega), hm_17]; rw [hAd_28 (k + 1) (by omega)]
  have hm_31 : M_23 (k + 1) = some (aI G 6 (nF (fun _ => 0))) := by rw [eM_26, va_up_ne _ _ (by omega), hm_18]
  have fr_32 : M_23 (k + 3) = none := by rw [eM_26, va_up_ne _ _ (by omega)]; exact fr_20
  clear hm_17 hm_18 fr_20
  have hF_33 : ∀ j : Nat, j ≠ (k + 1) → j ≠ k → j ≠ (k + 2) → M_23 j = M j := fun j q0 q1 q2 => by rw [eM_26, va_up_ne _ _ q2]; exact hF_21 j q0 q1
  clear hF_21
  refine n_eqs (show ([.ref (ad_22 (k + 2)), .ref (ad_1 k)] : List Value) = [.ref (ad_22 (k + 2)), .ref (ad_22 k)] from by rw [hAd_28 k (by omega)]) ?_
  refine h_putF (C := RX0) (T := TX0) (N := 4) hx hb hts i_RX0 tyX0 tyX0_ok nmX0 hown hI hm_30 rfl 1 (by decide) f_15 rfl rfl hini rfl rfl rfl (Nat.le_of_ble_eq_true rfl) dX0_init_17 (fun M_34 H_35 locs_36 eM_37 hI => ?_)
  have hm_38 : M_34 k = some (.inr (1, [.ref (ad_22 (k + 1)), .ref (ad_22 (k + 2)), .null, .int (nI 0)])) := by rw [eM_37]; exact va_up_self _ _ _
  have hm_39 : M_34 (k + 1) = some (aI G 6 (nF (fun _ => 0))) := by rw [eM_37, va_up_ne _ _ (by omega)]; exact hm_31
  have hm_40 : M_34 (k + 2) = some (aI G 6 (nF (fun _ => 0))) := by rw [eM_37, va_up_ne _ _ (by omega)]; exact hm_29
  have fr_41 : M_34 (k + 3) = none := by rw [eM_37, va_up_ne _ _ (by omega)]; exact fr_32
  have hF_42 : ∀ j : Nat, j ≠ (k + 1) → j ≠ k → j ≠ (k + 2) → M_34 j = M j := fun j q0 q1 q2 => by rw [eM_37, va_up_ne _ _ q1]; exact hF_33 j q0 q1 q2
  clear hm_30 hm_31 hm_29 fr_32 hF_33
  refine lv_aload_n hx hb dX0_init_20 rfl (lv_at hl 0 rfl) ?_
  refine n_eqv (show Value.ref (ad k) = .ref (ad_22 k) from by rw [hAd_28 k (by omega), hAd_7 k (by omega)]) ?_
  refine lv_bipush (v := nI 6) hx hb dX0_init_21 (by decide) ?_
  refine h_newa (atype := .int) (n := 6) (a0 := (6, .inl (nF (fun _ => 0)))) hx hb na_int 0 (ty := .int) rfl rfl (fun C h => by cases h) hI (ha_int 6) (by decide) (by decide) (Nat.le_of_ble_eq_true rfl) (Nat.le_of_ble_eq_true rfl) dX0_init_23 (k + 3) fr_41 (fun ad_43 M_44 H_45 hA_46 eM_47 hI => ?_)
  have hAd_49 : ∀ j : Nat, j ≠ (k + 3) → ad_43 j = ad_22 j := fun j hj => by obtain ⟨q, e⟩ := hA_46; rw [e]; exact va_up_ne _ _ hj
  have hm_50 : M_44 (k + 3) = some (aI G 6 (nF (fun _ => 0))) := by rw [eM_47]; exact va_up_self _ _ _
  have hm_51 : M_44 k = some (.inr (1, [.ref (ad_43 (k + 1)), .ref (ad_43 (k + 2)), .null, .int (nI 0)])) := by rw [eM_47, va_up_ne _ _ (by omega), hm_38]; rw [hAd_49 (k + 1) (by omega), hAd_49 (k + 2) (by omega)]
  have hm_52 : M_44 (k + 1) = some (aI G 6 (nF (fun _ => 0))) := by rw [eM_47, va_up_ne _ _ (by omega), hm_39]
  have hm_53 : M_44 (k + 2) = some (aI G 6 (nF (fun _ => 0))) := by rw [eM_47, va_up_ne _ _ (by omega), hm_40]
  clear hm_38 hm_39 hm_40
  have hF_54 : ∀ j : Nat, j ≠ (k + 1) → j ≠ k → j ≠ (k + 2) → j ≠ (k + 3) → M_44 j = M j := fun j q0 q1 q2 q3 => by rw [eM_47, va_up_ne _ _ q3]; exact hF_42 j q0 q1 q2
  clear hF_42
  refine n_eqs (show ([.ref (ad_43 (k + 3)), .ref (ad_22 k)] : List Value) = [.ref (ad_43 (k + 3)), .ref (ad_43 k)] from by rw [hAd_49 k (by omega)]) ?_
  refine h_putF (C := RX0) (T := TX0) (N := 4) hx hb hts i_RX0 tyX0 tyX0_ok nmX0 hown hI hm_51 rfl 2 (by decide) f_18 rfl rfl hini rfl rfl rfl (Nat.le_of_ble_eq_true rfl) dX0_init_25 (fun M_55 H_56 locs_57 eM_58 hI => ?_)
  have hm_59 : M_55 k = some (.inr (1, [.ref (ad_43 (k + 1)), .ref (ad_43 (k + 2)), .ref (ad_43 (k + 3)), .int (nI 0)])) := by rw [eM_58]; exact va_up_self _ _ _
  have hm_60 : M_55 (k + 1) = some (aI G 6 (nF (fun _ => 0))) := by rw [eM_58, va_up_ne _ _ (by omega)]; exact hm_52
  have hm_61 : M_55 (k + 2) = some (aI G 6 (nF (fun _ => 0))) := by rw [eM_58, va_up_ne _ _ (by omega)]; exact hm_53
  have hm_62 : M_55 (k + 3) = some (aI G 6 (nF (fun _ => 0))) := by rw [eM_58, va_up_ne _ _ (by omega)]; exact hm_50
  have hF_63 : ∀ j : Nat, j ≠ (k + 1) → j ≠ k → j ≠ (k + 2) → j ≠ (k + 3) → M_55 j = M j := fun j q0 q1 q2 q3 => by rw [eM_58, va_up_ne _ _ q1]; exact hF_54 j q0 q1 q2 q3
  clear hm_51 hm_52 hm_53 hm_50 hF_54
  exact e_Av hx hb hr hlocks hI ⟨hm_59, hm_60, hm_61, hm_62, (fun j q0 q1 q2 q3 => hF_63 j q1 q0 q2 q3), (fun j q0 q1 q2 => (by show ad_43 j = ad j; rw [hAd_49 j q2, hAd_28 j q1, hAd_7 j q0]))⟩ dX0_init_28

/-- X6_init -/
abbrev rm_c_X6_init : Room := { frames := 1, cells := 6, slots := 72, locals := 20 }
set_option maxHeartbeats 4000000 in
set_option maxRecDepth 100000 in
theorem c_X6_init (l : Launch) (G : GG) (z : Nat) (ad : Nat → Nat) (M : Mem) {k : Nat} (hk : M k = some (.inr (7, [.null, .null, .null, .null, .null, .null, .int (nI 0), .int (nI 0)]))) (fre0 : M (k + 1) = none) (fre1 : M (k + 2) = none) (fre2 : M (k + 3) = none) (fre3 : M (k + 4) = none) (fre4 : M (k + 5) = none) (fre5 : M (k + 6) = none) : Met l yX6_init wsX6_init rm_c_X6_init (Pr G z ad M [.ref (ad k)]) (Av G z (fun (u : (Nat → Nat) × Mem) => u.2 k = some (cQuestion u.1 k 0 0) ∧ u.2 (k + 1) = some (aI G 6 (nF (fun _ => 0))) ∧ u.2 (k + 2) = some (aZ G 6 (bF (fun _ => false))) ∧ u.2 (k + 3) = some (aI G 6 (nF (fun _ => 0))) ∧ u.2 (k + 4) = some (aI G 6 (nF (fun _ => 0))) ∧ u.2 (k + 5) = some (aI G 24 (nF (fun _ => 0))) ∧ u.2 (k + 6) = some (aI G 24 (nF (fun _ => 0))) ∧ (∀ j : Nat, j ≠ k → j ≠ (k + 1) → j ≠ (k + 2) → j ≠ (k + 3) → j ≠ (k + 4) → j ≠ (k + 5) → j ≠ (k + 6) → u.2 j = M j) ∧ (∀ j : Nat, j ≠ (k + 1) → j ≠ (k + 2) → j ≠ (k + 3) → j ≠ (k + 4) → j ≠ (k + 5) → j ≠ (k + 6) → u.1 j = ad j))) 6 72 (fr z) := by
  refine Met.ofW (cc := cX6_init) (maxL := 1) (ret := none) (by decide) rfl ?_
  intro p e s m args below meth c s₁ B hml hv
  obtain ⟨rfl, hv⟩ := hv
  have hI := Iv.entry hv
  have hx := B.exec
  have hb := B.bytes
  have hr := B.returns
  have hts := atoms_spec (ws := wsX6_init) B.pre
  have hown : s.vm.findClass RX6 = some m.cls := findClass_of_methodNamed B.named
  have hlocks := B.notSynchronized
  have hini : meth.name = "<init>" := (name_of_methodNamed B.named B.method).1
  have m_3 := hts _ (List.mem_cons_of_mem _ (lwg_of t_188 rfl))
  have n_oi := hts _ (List.mem_cons_of_mem _ (lwg_of t_39 rfl))
  have n_oc := hts _ (List.mem_cons_of_mem _ (lwg_of t_40 rfl))
  have na_int := hts _ (List.mem_cons_of_mem _ (lwg_of t_54 rfl))
  have f_9 := hts _ (List.mem_cons_of_mem _ (lwg_of t_189 rfl))
  have i_RX6 : ∀ w ∈ u_ws RX6 TX6 8, w ∈ wsX6_init := fun w h => List.mem_cons_of_mem _ (iu_X6 w h)
  have na_boolean := hts _ (List.mem_cons_of_mem _ (lwg_of t_74 rfl))
  have f_15 := hts _ (List.mem_cons_of_mem _ (lwg_of t_190 rfl))
  have f_19 := hts _ (List.mem_cons_of_mem _ (lwg_of t_191 rfl))
  have f_22 := hts _ (List.mem_cons_of_mem _ (lwg_of t_192 rfl))
  have f_25 := hts _ (List.mem_cons_of_mem _ (lwg_of t_193 rfl))
  have f_28 := hts _ (List.mem_cons_of_mem _ (lwg_of t_194 rfl))
  have hl := lv_entry ([.ref (ad k)]) (n := 1) (Nat.le_of_ble_eq_true rfl)
  rw [lg_entry_eq]
  generalize (lg_sl ([.ref (ad k)]) ++ List.replicate (1 - (lg_sl ([.ref (ad k)])).length) Slot.unset).toArray = ls at hl ⊢
  have hl : lv_has ls 1 [(0, .ref (ad k))] := hl
  refine lv_aload_n hx hb dX6_init_0 rfl (lv_at hl 0 rfl) ?_
  refine W.objInit hx hb hown m_3 n_oi n_oc rfl (by rw [hml]; exact hl.1) rfl dX6_init_1 (Nat.le_of_ble_eq_true rfl) (Nat.le_of_ble_eq_true rfl) ?_
  refine W.eq (g2 := F0 m 4 ls []) rfl ?_
  refine lv_aload_n hx hb dX6_init_4 rfl (lv_at hl 0 rfl) ?_
  refine lv_bipush (v := nI 6) hx hb dX6_init_5 (by decide) ?_
  refine h_newa (atype := .int) (n := 6) (a0 := (6, .inl (nF (fun _ => 0)))) hx hb na_int 0 (ty := .int) rfl rfl (fun C h => by cases h) hI (ha_int 6) (by decide) (by decide) (Nat.le_of_ble_eq_true rfl) (Nat.le_of_ble_eq_true rfl) dX6_init_7 (k + 1) fre0 (fun ad_1 M_2 H_3 hA_4 eM_5 hI => ?_)
  have hAd_7 : ∀ j : Nat, j ≠ (k + 1) → ad_1 j = ad j := fun j hj => by obtain ⟨q, e⟩ := hA_4; rw [e]; exact va_up_ne _ _ hj
  have hm_8 : M_2 (k + 1) = some (aI G 6 (nF (fun _ => 0))) := by rw [eM_5]; exact va_up_self _ _ _
  have hm_9 : M_2 k = some (.inr (7, [.null, .null, .null, .null, .null, .null, .int (nI 0), .int (nI 0)])) := by rw [eM_5, va_up_ne _ _ (by omega), hk]
  have fr_10 : M_2 (k + 2) = none := by rw [eM_5, va_up_ne _ _ (by omega)]; exact fre1
  have fr_11 : M_2 (k + 3) = none := by rw [eM_5, va_up_ne _ _ (by omega)]; exact fre2
  have fr_12 : M_2 (k + 4) = none := by rw [eM_5, va_up_ne _ _ (by omega)]; exact fre3
  have fr_13 : M_2 (k + 5) = none := by rw [eM_5, va_up_ne _ _ (by omega)]; exact fre4
  have fr_14 : M_2 (k + 6) = none := by rw [eM_5, va_up_ne _ _ (by omega)]; exact fre5
  have hF_15 : ∀ j : Nat, j ≠ (k + 1) → M_2 j = M j := fun j q0 => by rw [eM_5, va_up_ne _ _ q0]
  refine n_eqs (show ([.ref (ad_1 (k + 1)), .ref (ad k)] : List Value) = [.ref (ad_1 (k + 1)), .ref (ad_1 k)] from by rw [hAd_7 k (by omega)]) ?_
  refine h_putF (C := RX6) (T := TX6) (N := 8) hx hb hts i_RX6 tyX6 tyX6_ok nmX6 hown hI hm_9 rfl 0 (by decide) f_9 rfl rfl hini rfl rfl rfl (Nat.le_of_ble_eq_true rfl) dX6_init_9 (fun M_16 H_17 locs_18 eM_19 hI => ?_)
  have hm_20 : M_16 k = some (.inr (7, [.ref (ad_1 (k + 1)), .null, .null, .null, .null, .null, .int (nI 0), .int (nI 0)])) := by rw [eM_19]; exact va_up_self _ _ _
  have hm_21 : M_16 (k + 1) = some (aI G 6 (nF (fun _ => 0))) := by rw [eM_19, va_up_ne _ _ (by omega)]; exact hm_8
  have fr_22 : M_16 (k + 2) = none := by rw [eM_19, va_up_ne _ _ (by omega)]; exact fr_10
  have fr_23 : M_16 (k + 3) = none := by rw [eM_19, va_up_ne _ _ (by omega)]; exact fr_11
  have fr_24 : M_16 (k + 4) = none := by rw [eM_19, va_up_ne _ _ (by omega)]; exact fr_12
  have fr_25 : M_16 (k + 5) = none := by rw [eM_19, va_up_ne _ _ (by omega)]; exact fr_13
  have fr_26 : M_16 (k + 6) = none := by rw [eM_19, va_up_ne _ _ (by omega)]; exact fr_14
  have hF_27 : ∀ j : Nat, j ≠ (k + 1) → j ≠ k → M_16 j = M j := fun j q0 q1 => by rw [eM_19, va_up_ne _ _ q1]; exact hF_15 j q0
  clear hm_9 hm_8 fr_10 fr_11 fr_12 fr_13 fr_14 hF_15
  refine lv_aload_n hx hb dX6_init_12 rfl (lv_at hl 0 rfl) ?_
  refine n_eqv (show Value.ref (ad k) = .ref (ad_1 k) from by rw [hAd_7 k (by omega)]) ?_
  refine lv_bipush (v := nI 6) hx hb dX6_init_13 (by decide) ?_
  refine h_newa (atype := .boolean) (n := 6) (a0 := (6, .inl (bF (fun _ => false)))) hx hb na_boolean 1 (ty := .boolean) rfl rfl (fun C h => by cases h) hI (ha_boolean 6) (by decide) (by decide) (Nat.le_of_ble_eq_true rfl) (Nat.le_of_ble_eq_true rfl) dX6_init_15 (k + 2) fr_22 (fun ad_28 M_29 H_30 hA_31 eM_32 hI => ?_)
  have hAd_34 : ∀ j : Nat, j ≠ (k + 2) → ad_28 j = ad_1 j := fun j hj => by obtain ⟨q, e⟩ := hA_31; rw [e]; exact va_up_ne _ _ hj
  have hm_35 : M_29 (k + 2) = some (aZ G 6 (bF (fun _ => false))) := by rw [eM_32]; exact va_up_self _ _ _
  have hm_36 : M_29 k = some (.inr (7, [.ref (ad_28 (k + 1)), .null, .null, .null, .null, .null, .int (nI 0), .int (nI 0)])) := by rw [eM_32, va_up_ne _ _ (by omega), hm_20]; rw [hAd_34 (k + 1) (by omega)]
  have hm_37 : M_29 (k + 1) = some (aI G 6 (nF (fun _ => 0))) := by rw [eM_32, va_up_ne _ _ (by omega), hm_21]
  have fr_38 : M_29 (k + 3) = none := by rw [eM_32, va_up_ne _ _ (by omega)]; exact fr_23
  have fr_39 : M_29 (k + 4) = none := by rw [eM_32, va_up_ne _ _ (by omega)]; exact fr_24
  have fr_40 : M_29 (k + 5) = none := by rw [eM_32, va_up_ne _ _ (by omega)]; exact fr_25
  have fr_41 : M_29 (k + 6) = none := by rw [eM_32, va_up_ne _ _ (by omega)]; exact fr_26
  clear hm_20 hm_21 fr_23 fr_24 fr_25 fr_26
  have hF_42 : ∀ j : Nat, j ≠ (k + 1) → j ≠ k → j ≠ (k + 2) → M_29 j = M j := fun j q0 q1 q2 => by rw [eM_32, va_up_ne _ _ q2]; exact hF_27 j q0 q1
  clear hF_27
  refine n_eqs (show ([.ref (ad_28 (k + 2)), .ref (ad_1 k)] : List Value) = [.ref (ad_28 (k + 2)), .ref (ad_28 k)] from by rw [hAd_34 k (by omega)]) ?_
  refine h_putF (C := RX6) (T := TX6) (N := 8) hx hb hts i_RX6 tyX6 tyX6_ok nmX6 hown hI hm_36 rfl 1 (by decide) f_15 rfl rfl hini rfl rfl rfl (Nat.le_of_ble_eq_true rfl) dX6_init_17 (fun M_43 H_44 locs_45 eM_46 hI => ?_)
  have hm_47 : M_43 k = some (.inr (7, [.ref (ad_28 (k + 1)), .ref (ad_28 (k + 2)), .null, .null, .null, .null, .int (nI 0), .int (nI 0)])) := by rw [eM_46]; exact va_up_self _ _ _
  have hm_48 : M_43 (k + 1) = some (aI G 6 (nF (fun _ => 0))) := by rw [eM_46, va_up_ne _ _ (by omega)]; exact hm_37
  have hm_49 : M_43 (k + 2) = some (aZ G 6 (bF (fun _ => false))) := by rw [eM_46, va_up_ne _ _ (by omega)]; exact hm_35
  have fr_50 : M_43 (k + 3) = none := by rw [eM_46, va_up_ne _ _ (by omega)]; exact fr_38
  have fr_51 : M_43 (k + 4) = none := by rw [eM_46, va_up_ne _ _ (by omega)]; exact fr_39
  have fr_52 : M_43 (k + 5) = none := by rw [eM_46, va_up_ne _ _ (by omega)]; exact fr_40
  have fr_53 : M_43 (k + 6) = none := by rw [eM_46, va_up_ne _ _ (by omega)]; exact fr_41
  have hF_54 : ∀ j : Nat, j ≠ (k + 1) → j ≠ k → j ≠ (k + 2) → M_43 j = M j := fun j q0 q1 q2 => by rw [eM_46, va_up_ne _ _ q1]; exact hF_42 j q0 q1 q2
  clear hm_36 hm_37 hm_35 fr_38 fr_39 fr_40 fr_41 hF_42
  refine lv_aload_n hx hb dX6_init_20 rfl (lv_at hl 0 rfl) ?_
  refine n_eqv (show Value.ref (ad k) = .ref (ad_28 k) from by rw [hAd_34 k (by omega), hAd_7 k (by omega)]) ?_
  refine lv_bipush (v := nI 6) hx hb dX6_init_21 (by decide) ?_
  refine h_newa (atype := .int) (n := 6) (a0 := (6, .inl (nF (fun _ => 0)))) hx hb na_int 0 (ty := .int) rfl rfl (fun C h => by cases h) hI (ha_int 6) (by decide) (by decide) (Nat.le_of_ble_eq_true rfl) (Nat.le_of_ble_eq_true rfl) dX6_init_23 (k + 3) fr_50 (fun ad_55 M_56 H_57 hA_58 eM_59 hI => ?_)
  have hAd_61 : ∀ j : Nat, j ≠ (k + 3) → ad_55 j = ad_28 j := fun j hj => by obtain ⟨q, e⟩ := hA_58; rw [e]; exact va_up_ne _ _ hj
  have hm_62 : M_56 (k + 3) = some (aI G 6 (nF (fun _ => 0))) := by rw [eM_59]; exact va_up_self _ _ _
  have hm_63 : M_56 k = some (.inr (7, [.ref (ad_55 (k + 1)), .ref (ad_55 (k + 2)), .null, .null, .null, .null, .int (nI 0), .int (nI 0)])) := by rw [eM_59, va_up_ne _ _ (by omega), hm_47]; rw [hAd_61 (k + 1) (by omega), hAd_61 (k + 2) (by omega)]
  have hm_64 : M_56 (k + 1) = some (aI G 6 (nF (fun _ => 0))) := by rw [eM_59, va_up_ne _ _ (by omega), hm_48]
  have hm_65 : M_56 (k + 2) = some (aZ G 6 (bF (fun _ => false))) := by rw [eM_59, va_up_ne _ _ (by omega), hm_49]
  have fr_66 : M_56 (k + 4) = none := by rw [eM_59, va_up_ne _ _ (by omega)]; exact fr_51
  have fr_67 : M_56 (k + 5) = none := by rw [eM_59, va_up_ne _ _ (by omega)]; exact fr_52
  have fr_68 : M_56 (k + 6) = none := by rw [eM_59, va_up_ne _ _ (by omega)]; exact fr_53
  clear hm_47 hm_48 hm_49 fr_51 fr_52 fr_53
  have hF_69 : ∀ j : Nat, j ≠ (k + 1) → j ≠ k → j ≠ (k + 2) → j ≠ (k + 3) → M_56 j = M j := fun j q0 q1 q2 q3 => by rw [eM_59, va_up_ne _ _ q3]; exact hF_54 j q0 q1 q2
  clear hF_54
  refine n_eqs (show ([.ref (ad_55 (k + 3)), .ref (ad_28 k)] : List Value) = [.ref (ad_55 (k + 3)), .ref (ad_55 k)] from by rw [hAd_61 k (by omega)]) ?_
  refine h_putF (C := RX6) (T := TX6) (N := 8) hx hb hts i_RX6 tyX6 tyX6_ok nmX6 hown hI hm_63 rfl 2 (by decide) f_19 rfl rfl hini rfl rfl rfl (Nat.le_of_ble_eq_true rfl) dX6_init_25 (fun M_70 H_71 locs_72 eM_73 hI => ?_)
  have hm_74 : M_70 k = some (.inr (7, [.ref (ad_55 (k + 1)), .ref (ad_55 (k + 2)), .ref (ad_55 (k + 3)), .null, .null, .null, .int (nI 0), .int (nI 0)])) := by rw [eM_73]; exact va_up_self _ _ _
  have hm_75 : M_70 (k + 1) = some (aI G 6 (nF (fun _ => 0))) := by rw [eM_73, va_up_ne _ _ (by omega)]; exact hm_64
  have hm_76 : M_70 (k + 2) = some (aZ G 6 (bF (fun _ => false))) := by rw [eM_73, va_up_ne _ _ (by omega)]; exact hm_65
  have hm_77 : M_70 (k + 3) = some (aI G 6 (nF (fun _ => 0))) := by rw [eM_73, va_up_ne _ _ (by omega)]; exact hm_62
  have fr_78 : M_70 (k + 4) = none := by rw [eM_73, va_up_ne _ _ (by omega)]; exact fr_66
  have fr_79 : M_70 (k + 5) = none := by rw [eM_73, va_up_ne _ _ (by omega)]; exact fr_67
  have fr_80 : M_70 (k + 6) = none := by rw [eM_73, va_up_ne _ _ (by omega)]; exact fr_68
  have hF_81 : ∀ j : Nat, j ≠ (k + 1) → j ≠ k → j ≠ (k + 2) → j ≠ (k + 3) → M_70 j = M j := fun j q0 q1 q2 q3 => by rw [eM_73, va_up_ne _ _ q1]; exact hF_69 j q0 q1 q2 q3
  clear hm_63 hm_64 hm_65 hm_62 fr_66 fr_67 fr_68 hF_69
  refine lv_aload_n hx hb dX6_init_28 rfl (lv_at hl 0 rfl) ?_
  refine n_eqv (show Value.ref (ad k) = .ref (ad_55 k) from by rw [hAd_61 k (by omega), hAd_34 k (by omega), hAd_7 k (by omega)]) ?_
  refine lv_bipush (v := nI 6) hx hb dX6_init_29 (by decide) ?_
  refine h_newa (atype := .int) (n := 6) (a0 := (6, .inl (nF (fun _ => 0)))) hx hb na_int 0 (ty := .int) rfl rfl (fun C h => by cases h) hI (ha_int 6) (by decide) (by decide) (Nat.le_of_ble_eq_true rfl) (Nat.le_of_ble_eq_true rfl) dX6_init_31 (k + 4) fr_78 (fun ad_82 M_83 H_84 hA_85 eM_86 hI => ?_)
  have hAd_88 : ∀ j : Nat, j ≠ (k + 4) → ad_82 j = ad_55 j := fun j hj => by obtain ⟨q, e⟩ := hA_85; rw [e]; exact va_up_ne _ _ hj
  have hm_89 : M_83 (k + 4) = some (aI G 6 (nF (fun _ => 0))) := by rw [eM_86]; exact va_up_self _ _ _
  have hm_90 : M_83 k = some (.inr (7, [.ref (ad_82 (k + 1)), .ref (ad_82 (k + 2)), .ref (ad_82 (k + 3)), .null, .null, .null, .int (nI 0), .int (nI 0)])) := by rw [eM_86, va_up_ne _ _ (by omega), hm_74]; rw [hAd_88 (k + 1) (by omega), hAd_88 (k + 2) (by omega), hAd_88 (k + 3) (by omega)]
  have hm_91 : M_83 (k + 1) = some (aI G 6 (nF (fun _ => 0))) := by rw [eM_86, va_up_ne _ _ (by omega), hm_75]
  have hm_92 : M_83 (k + 2) = some (aZ G 6 (bF (fun _ => false))) := by rw [eM_86, va_up_ne _ _ (by omega), hm_76]
  have hm_93 : M_83 (k + 3) = some (aI G 6 (nF (fun _ => 0))) := by rw [eM_86, va_up_ne _ _ (by omega), hm_77]
  have fr_94 : M_83 (k + 5) = none := by rw [eM_86, va_up_ne _ _ (by omega)]; exact fr_79
  have fr_95 : M_83 (k + 6) = none := by rw [eM_86, va_up_ne _ _ (by omega)]; exact fr_80
  clear hm_74 hm_75 hm_76 hm_77 fr_79 fr_80
  have hF_96 : ∀ j : Nat, j ≠ (k + 1) → j ≠ k → j ≠ (k + 2) → j ≠ (k + 3) → j ≠ (k + 4) → M_83 j = M j := fun j q0 q1 q2 q3 q4 => by rw [eM_86, va_up_ne _ _ q4]; exact hF_81 j q0 q1 q2 q3
  clear hF_81
  refine n_eqs (show ([.ref (ad_82 (k + 4)), .ref (ad_55 k)] : List Value) = [.ref (ad_82 (k + 4)), .ref (ad_82 k)] from by rw [hAd_88 k (by omega)]) ?_
  refine h_putF (C := RX6) (T := TX6) (N := 8) hx hb hts i_RX6 tyX6 tyX6_ok nmX6 hown hI hm_90 rfl 3 (by decide) f_22 rfl rfl hini rfl rfl rfl (Nat.le_of_ble_eq_true rfl) dX6_init_33 (fun M_97 H_98 locs_99 eM_100 hI => ?_)
  have hm_101 : M_97 k = some (.inr (7, [.ref (ad_82 (k + 1)), .ref (ad_82 (k + 2)), .ref (ad_82 (k + 3)), .ref (ad_82 (k + 4)), .null, .null, .int (nI 0), .int (nI 0)])) := by rw [eM_100]; exact va_up_self _ _ _
  have hm_102 : M_97 (k + 1) = some (aI G 6 (nF (fun _ => 0))) := by rw [eM_100, va_up_ne _ _ (by omega)]; exact hm_91
  have hm_103 : M_97 (k + 2) = some (aZ G 6 (bF (fun _ => false))) := by rw [eM_100, va_up_ne _ _ (by omega)]; exact hm_92
  have hm_104 : M_97 (k + 3) = some (aI G 6 (nF (fun _ => 0))) := by rw [eM_100, va_up_ne _ _ (by omega)]; exact hm_93
  have hm_105 : M_97 (k + 4) = some (aI G 6 (nF (fun _ => 0))) := by rw [eM_100, va_up_ne _ _ (by omega)]; exact hm_89
  have fr_106 : M_97 (k + 5) = none := by rw [eM_100, va_up_ne _ _ (by omega)]; exact fr_94
  have fr_107 : M_97 (k + 6) = none := by rw [eM_100, va_up_ne _ _ (by omega)]; exact fr_95
  have hF_108 : ∀ j : Nat, j ≠ (k + 1) → j ≠ k → j ≠ (k + 2) → j ≠ (k + 3) → j ≠ (k + 4) → M_97 j = M j := fun j q0 q1 q2 q3 q4 => by rw [eM_100, va_up_ne _ _ q1]; exact hF_96 j q0 q1 q2 q3 q4
  clear hm_90 hm_91 hm_92 hm_93 hm_89 fr_94 fr_95 hF_96
  refine lv_aload_n hx hb dX6_init_36 rfl (lv_at hl 0 rfl) ?_
  refine n_eqv (show Value.ref (ad k) = .ref (ad_82 k) from by rw [hAd_88 k (by omega), hAd_61 k (by omega), hAd_34 k (by omega), hAd_7 k (by omega)]) ?_
  refine lv_bipush (v := nI 24) hx hb dX6_init_37 (by decide) ?_
  refine h_newa (atype := .int) (n := 24) (a0 := (24, .inl (nF (fun _ => 0)))) hx hb na_int 0 (ty := .int) rfl rfl (fun C h => by cases h) hI (ha_int 24) (by decide) (by decide) (Nat.le_of_ble_eq_true rfl) (Nat.le_of_ble_eq_true rfl) dX6_init_39 (k + 5) fr_106 (fun ad_109 M_110 H_111 hA_112 eM_113 hI => ?_)
  have hAd_115 : ∀ j : Nat, j ≠ (k + 5) → ad_109 j = ad_82 j := fun j hj => by obtain ⟨q, e⟩ := hA_112; rw [e]; exact va_up_ne _ _ hj
  have hm_116 : M_110 (k + 5) = some (aI G 24 (nF (fun _ => 0))) := by rw [eM_113]; exact va_up_self _ _ _
  have hm_117 : M_110 k = some (.inr (7, [.ref (ad_109 (k + 1)), .ref (ad_109 (k + 2)), .ref (ad_109 (k + 3)), .ref (ad_109 (k + 4)), .null, .null, .int (nI 0), .int (nI 0)])) := by rw [eM_113, va_up_ne _ _ (by omega), hm_101]; rw [hAd_115 (k + 1) (by omega), hAd_115 (k + 2) (by omega), hAd_115 (k + 3) (by omega), hAd_115 (k + 4) (by omega)]
  have hm_118 : M_110 (k + 1) = some (aI G 6 (nF (fun _ => 0))) := by rw [eM_113, va_up_ne _ _ (by omega), hm_102]
  have hm_119 : M_110 (k + 2) = some (aZ G 6 (bF (fun _ => false))) := by rw [eM_113, va_up_ne _ _ (by omega), hm_103]
  have hm_120 : M_110 (k + 3) = some (aI G 6 (nF (fun _ => 0))) := by rw [eM_113, va_up_ne _ _ (by omega), hm_104]
  have hm_121 : M_110 (k + 4) = some (aI G 6 (nF (fun _ => 0))) := by rw [eM_113, va_up_ne _ _ (by omega), hm_105]
  have fr_122 : M_110 (k + 6) = none := by rw [eM_113, va_up_ne _ _ (by omega)]; exact fr_107
  clear hm_101 hm_102 hm_103 hm_104 hm_105 fr_107
  have hF_123 : ∀ j : Nat, j ≠ (k + 1) → j ≠ k → j ≠ (k + 2) → j ≠ (k + 3) → j ≠ (k + 4) → j ≠ (k + 5) → M_110 j = M j := fun j q0 q1 q2 q3 q4 q5 => by rw [eM_113, va_up_ne _ _ q5]; exact hF_108 j q0 q1 q2 q3 q4
  clear hF_108
  refine n_eqs (show ([.ref (ad_109 (k + 5)), .ref (ad_82 k)] : List Value) = [.ref (ad_109 (k + 5)), .ref (ad_109 k)] from by rw [hAd_115 k (by omega)]) ?_
  refine h_putF (C := RX6) (T := TX6) (N := 8) hx hb hts i_RX6 tyX6 tyX6_ok nmX6 hown hI hm_117 rfl 4 (by decide) f_25 rfl rfl hini rfl rfl rfl (Nat.le_of_ble_eq_true rfl) dX6_init_41 (fun M_124 H_125 locs_126 eM_127 hI => ?_)
  have hm_128 : M_124 k = some (.inr (7, [.ref (ad_109 (k + 1)), .ref (ad_109 (k + 2)), .ref (ad_109 (k + 3)), .ref (ad_109 (k + 4)), .ref (ad_109 (k + 5)), .null, .int (nI 0), .int (nI 0)])) := by rw [eM_127]; exact va_up_self _ _ _
  have hm_129 : M_124 (k + 1) = some (aI G 6 (nF (fun _ => 0))) := by rw [eM_127, va_up_ne _ _ (by omega)]; exact hm_118
  have hm_130 : M_124 (k + 2) = some (aZ G 6 (bF (fun _ => false))) := by rw [eM_127, va_up_ne _ _ (by omega)]; exact hm_119
  have hm_131 : M_124 (k + 3) = some (aI G 6 (nF (fun _ => 0))) := by rw [eM_127, va_up_ne _ _ (by omega)]; exact hm_120
  have hm_132 : M_124 (k + 4) = some (aI G 6 (nF (fun _ => 0))) := by rw [eM_127, va_up_ne _ _ (by omega)]; exact hm_121
  have hm_133 : M_124 (k + 5) = some (aI G 24 (nF (fun _ => 0))) := by rw [eM_127, va_up_ne _ _ (by omega)]; exact hm_116
  have fr_134 : M_124 (k + 6) = none := by rw [eM_127, va_up_ne _ _ (by omega)]; exact fr_122
  have hF_135 : ∀ j : Nat, j ≠ (k + 1) → j ≠ k → j ≠ (k + 2) → j ≠ (k + 3) → j ≠ (k + 4) → j ≠ (k + 5) → M_124 j = M j := fun j q0 q1 q2 q3 q4 q5 => by rw [eM_127, va_up_ne _ _ q1]; exact hF_123 j q0 q1 q2 q3 q4 q5
  clear hm_117 hm_118 hm_119 hm_120 hm_121 hm_116 fr_122 hF_123
  refine lv_aload_n hx hb dX6_init_44 rfl (lv_at hl 0 rfl) ?_
  refine n_eqv (show Value.ref (ad k) = .ref (ad_109 k) from by rw [hAd_115 k (by omega), hAd_88 k (by omega), hAd_61 k (by omega), hAd_34 k (by omega), hAd_7 k (by omega)]) ?_
  refine lv_bipush (v := nI 24) hx hb dX6_init_45 (by decide) ?_
  refine h_newa (atype := .int) (n := 24) (a0 := (24, .inl (nF (fun _ => 0)))) hx hb na_int 0 (ty := .int) rfl rfl (fun C h => by cases h) hI (ha_int 24) (by decide) (by decide) (Nat.le_of_ble_eq_true rfl) (Nat.le_of_ble_eq_true rfl) dX6_init_47 (k + 6) fr_134 (fun ad_136 M_137 H_138 hA_139 eM_140 hI => ?_)
  have hAd_142 : ∀ j : Nat, j ≠ (k + 6) → ad_136 j = ad_109 j := fun j hj => by obtain ⟨q, e⟩ := hA_139; rw [e]; exact va_up_ne _ _ hj
  have hm_143 : M_137 (k + 6) = some (aI G 24 (nF (fun _ => 0))) := by rw [eM_140]; exact va_up_self _ _ _
  have hm_144 : M_137 k = some (.inr (7, [.ref (ad_136 (k + 1)), .ref (ad_136 (k + 2)), .ref (ad_136 (k + 3)), .ref (ad_136 (k + 4)), .ref (ad_136 (k + 5)), .null, .int (nI 0), .int (nI 0)])) := by rw [eM_140, va_up_ne _ _ (by omega), hm_128]; rw [hAd_142 (k + 1) (by omega), hAd_142 (k + 2) (by omega), hAd_142 (k + 3) (by omega), hAd_142 (k + 4) (by omega), hAd_142 (k + 5) (by omega)]
  have hm_145 : M_137 (k + 1) = some (aI G 6 (nF (fun _ => 0))) := by rw [eM_140, va_up_ne _ _ (by omega), hm_129]
  have hm_146 : M_137 (k + 2) = some (aZ G 6 (bF (fun _ => false))) := by rw [eM_140, va_up_ne _ _ (by omega), hm_130]
  have hm_147 : M_137 (k + 3) = some (aI G 6 (nF (fun _ => 0))) := by rw [eM_140, va_up_ne _ _ (by omega), hm_131]
  have hm_148 : M_137 (k + 4) = some (aI G 6 (nF (fun _ => 0))) := by rw [eM_140, va_up_ne _ _ (by omega), hm_132]
  have hm_149 : M_137 (k + 5) = some (aI G 24 (nF (fun _ => 0))) := by rw [eM_140, va_up_ne _ _ (by omega), hm_133]
  clear hm_128 hm_129 hm_130 hm_131 hm_132 hm_133
  have hF_150 : ∀ j : Nat, j ≠ (k + 1) → j ≠ k → j ≠ (k + 2) → j ≠ (k + 3) → j ≠ (k + 4) → j ≠ (k + 5) → j ≠ (k + 6) → M_137 j = M j := fun j q0 q1 q2 q3 q4 q5 q6 => by rw [eM_140, va_up_ne _ _ q6]; exact hF_135 j q0 q1 q2 q3 q4 q5
  clear hF_135
  refine n_eqs (show ([.ref (ad_136 (k + 6)), .ref (ad_109 k)] : List Value) = [.ref (ad_136 (k + 6)), .ref (ad_136 k)] from by rw [hAd_142 k (by omega)]) ?_
  refine h_putF (C := RX6) (T := TX6) (N := 8) hx hb hts i_RX6 tyX6 tyX6_ok nmX6 hown hI hm_144 rfl 5 (by decide) f_28 rfl rfl hini rfl rfl rfl (Nat.le_of_ble_eq_true rfl) dX6_init_49 (fun M_151 H_152 locs_153 eM_154 hI => ?_)
  have hm_155 : M_151 k = some (.inr (7, [.ref (ad_136 (k + 1)), .ref (ad_136 (k + 2)), .ref (ad_136 (k + 3)), .ref (ad_136 (k + 4)), .ref (ad_136 (k + 5)), .ref (ad_136 (k + 6)), .int (nI 0), .int (nI 0)])) := by rw [eM_154]; exact va_up_self _ _ _
  have hm_156 : M_151 (k + 1) = some (aI G 6 (nF (fun _ => 0))) := by rw [eM_154, va_up_ne _ _ (by omega)]; exact hm_145
  have hm_157 : M_151 (k + 2) = some (aZ G 6 (bF (fun _ => false))) := by rw [eM_154, va_up_ne _ _ (by omega)]; exact hm_146
  have hm_158 : M_151 (k + 3) = some (aI G 6 (nF (fun _ => 0))) := by rw [eM_154, va_up_ne _ _ (by omega)]; exact hm_147
  have hm_159 : M_151 (k + 4) = some (aI G 6 (nF (fun _ => 0))) := by rw [eM_154, va_up_ne _ _ (by omega)]; exact hm_148
  have hm_160 : M_151 (k + 5) = some (aI G 24 (nF (fun _ => 0))) := by rw [eM_154, va_up_ne _ _ (by omega)]; exact hm_149
  have hm_161 : M_151 (k + 6) = some (aI G 24 (nF (fun _ => 0))) := by rw [eM_154, va_up_ne _ _ (by omega)]; exact hm_143
  have hF_162 : ∀ j : Nat, j ≠ (k + 1) → j ≠ k → j ≠ (k + 2) → j ≠ (k + 3) → j ≠ (k + 4) → j ≠ (k + 5) → j ≠ (k + 6) → M_151 j = M j := fun j q0 q1 q2 q3 q4 q5 q6 => by rw [eM_154, va_up_ne _ _ q1]; exact hF_150 j q0 q1 q2 q3 q4 q5 q6
  clear hm_144 hm_145 hm_146 hm_147 hm_148 hm_149 hm_143 hF_150
  exact e_Av hx hb hr hlocks hI ⟨hm_155, hm_156, hm_157, hm_158, hm_159, hm_160, hm_161, (fun j q0 q1 q2 q3 q4 q5 q6 => hF_162 j q1 q0 q2 q3 q4 q5 q6), (fun j q0 q1 q2 q3 q4 q5 => (by show ad_136 j = ad j; rw [hAd_142 j q5, hAd_115 j q4, hAd_88 j q3, hAd_61 j q2, hAd_34 j q1, hAd_7 j q0]))⟩ dX6_init_52

/-- Jxa1e45_init_da8c8 -/
abbrev rm_c_Jxa1e45_init_da8c8 : Room := { frames := 1, cells := 0, slots := 0, locals := 20 }
set_option maxHeartbeats 4000000 in
set_option maxRecDepth 100000 in
theorem c_Jxa1e45_init_da8c8 (l : Launch) (G : GG) (z : Nat) (ad : Nat → Nat) (M : Mem)  (h17 : M 17 = some (.inr (0, [.int (nI 0), .null, .int (nI 0)])))  : Met l yJxa1e45_init_da8c8 wsJxa1e45_init_da8c8 rm_c_Jxa1e45_init_da8c8 (Pr G z ad M [.ref (ad 17)]) (Nv G z ad (fun (M' : Mem) => (∀ j : Nat,  M' j = M j))) 0 0 (fr z) := by
  refine Met.ofW (cc := cJxa1e45_init_da8c8) (maxL := 1) (ret := none) (by decide) rfl ?_
  intro p e s m args below meth c s₁ B hml hv
  obtain ⟨rfl, hv⟩ := hv
  have hI := Iv.entry hv
  have hx := B.exec
  have hb := B.bytes
  have hr := B.returns
  have hts := atoms_spec (ws := wsJxa1e45_init_da8c8) B.pre
  have hown : s.vm.findClass RJxa1e45 = some m.cls := findClass_of_methodNamed B.named
  have hlocks := B.notSynchronized
  have hini : meth.name = "<init>" := (name_of_methodNamed B.named B.method).1
  have m_1 := hts _ (List.mem_cons_of_mem _ (lwg_of t_130 rfl))
  have n_oi := hts _ (List.mem_cons_of_mem _ (lwg_of t_39 rfl))
  have n_oc := hts _ (List.mem_cons_of_mem _ (lwg_of t_40 rfl))
  have hl := lv_entry ([.ref (ad 17)]) (n := 1) (Nat.le_of_ble_eq_true rfl)
  rw [lg_entry_eq]
  generalize (lg_sl ([.ref (ad 17)]) ++ List.replicate (1 - (lg_sl ([.ref (ad 17)])).length) Slot.unset).toArray = ls at hl ⊢
  have hl : lv_has ls 1 [(0, .ref (ad 17))] := hl
  refine lv_aload_n hx hb dJxa1e45_init_da8c8_0 rfl (lv_at hl 0 rfl) ?_
  refine W.objInit hx hb hown m_1 n_oi n_oc rfl (by rw [hml]; exact hl.1) rfl dJxa1e45_init_da8c8_1 (Nat.le_of_ble_eq_true rfl) (Nat.le_of_ble_eq_true rfl) ?_
  refine W.eq (g2 := F0 m 4 ls []) rfl ?_
  exact e_Nv hx hb hr hlocks hI (fun j  => rfl) dJxa1e45_init_da8c8_4

/-- Jxc12de_init_da8c8 -/
abbrev rm_c_Jxc12de_init_da8c8 : Room := { frames := 2, cells := 0, slots := 0, locals := 40 }
set_option maxHeartbeats 4000000 in
set_option maxRecDepth 100000 in
theorem c_Jxc12de_init_da8c8 (l : Launch) (G : GG) (z : Nat) (ad : Nat → Nat) (M : Mem)  (h17 : M 17 = some (.inr (0, [.int (nI 0), .null, .int (nI 0)])))  : Met l yJxc12de_init_da8c8 wsJxc12de_init_da8c8 rm_c_Jxc12de_init_da8c8 (Pr G z ad M [.ref (ad 17)]) (Nv G z ad (fun (M' : Mem) => M' 17 = some (.inr (0, [.int (nI 0), .null, .int (nI 0)])) ∧ (∀ j : Nat, j ≠ 17 → M' j = M j))) 0 0 (fr z) := by
  refine Met.ofW (cc := cJxc12de_init_da8c8) (maxL := 1) (ret := none) (by decide) rfl ?_
  intro p e s m args below meth c s₁ B hml hv
  obtain ⟨rfl, hv⟩ := hv
  have hI := Iv.entry hv
  have hx := B.exec
  have hb := B.bytes
  have hr := B.returns
  have hts := atoms_spec (ws := wsJxc12de_init_da8c8) B.pre
  have hown : s.vm.findClass RJxc12de = some m.cls := findClass_of_methodNamed B.named
  have hlocks := B.notSynchronized
  have hini : meth.name = "<init>" := (name_of_methodNamed B.named B.method).1
  have sp_1 := hts _ (List.mem_cons_of_mem _ (lwg_of t_7 rfl))
  have in_1 := hts _ (List.mem_cons_of_mem _ (lwg_of t_128 rfl))
  have ml_1 := hts _ (List.mem_cons_of_mem _ (lwg_of t_127 rfl))
  have f_7 := hts _ (List.mem_cons_of_mem _ (lwg_of t_135 rfl))
  have i_RJx4a65c : ∀ w ∈ u_ws RJx4a65c TJx4a65c 3, w ∈ wsJxc12de_init_da8c8 := fun w h => List.mem_cons_of_mem _ (iu_Jx4a65c w h)
  have hl := lv_entry ([.ref (ad 17)]) (n := 1) (Nat.le_of_ble_eq_true rfl)
  rw [lg_entry_eq]
  generalize (lg_sl ([.ref (ad 17)]) ++ List.replicate (1 - (lg_sl ([.ref (ad 17)])).length) Slot.unset).toArray = ls at hl ⊢
  have hl : lv_has ls 1 [(0, .ref (ad 17))] := hl
  refine lv_aload_n hx hb dJxc12de_init_da8c8_0 rfl (lv_at hl 0 rfl) ?_
  refine k_Nv (va_runI (As := []) (rest := []) ⟨hx, hb, hml, hown, hts⟩ (c_Jxa1e45_init_da8c8 l G z ad M  h17) (cwI 0 hts (gU (lwg_of t_129 rfl)) rfl rfl rfl sp_1 ml_1 in_1 rfl (by decide +kernel) ⟨Nat.le_of_ble_eq_true rfl, Nat.le_of_ble_eq_true rfl⟩) hI.preS rfl rfl hl.1 rfl (lv_room (Nat.le_of_ble_eq_true rfl)) dJxc12de_init_da8c8_1 ⟨Nat.le_of_ble_eq_true rfl, Nat.le_of_ble_eq_true rfl⟩) hI (fun M_3 H_4 locs_5 hp_2 hI => ?_)
  have hF_6 := hp_2
  have hm_7 : M_3 17 = some (.inr (0, [.int (nI 0), .null, .int (nI 0)])) := by rw [hF_6 17 ]; exact h17
  refine lv_aload_n hx hb dJxc12de_init_da8c8_4 rfl (lv_at hl 0 rfl) ?_
  refine lv_iconst (v := nI 0) hx hb dJxc12de_init_da8c8_5 (by decide) ?_
  refine h_put (C := RJx4a65c) (T := TJx4a65c) (N := 3) hx hb hts i_RJx4a65c tyJx4a65c tyJx4a65c_ok nmJx4a65c hown hI hm_7 rfl 0 (by decide) f_7 rfl rfl rfl rfl (Nat.le_of_ble_eq_true rfl) dJxc12de_init_da8c8_6 (fun M_8 H_9 locs_10 eM_11 hI => ?_)
  have hm_12 : M_8 17 = some (.inr (0, [.int (nI 0), .null, .int (nI 0)])) := by rw [eM_11]; exact va_up_self _ _ _
  have hF_13 : ∀ j : Nat, j ≠ 17 → M_8 j = M j := fun j q0 => by rw [eM_11, va_up_ne _ _ q0]; exact hF_6 j 
  exact e_Nv hx hb hr hlocks hI ⟨hm_12, (fun j q0 => hF_13 j q0)⟩ dJxc12de_init_da8c8_9

/-- Jx4a65c_init_da8c8 -/
abbrev rm_c_Jx4a65c_init_da8c8 : Room := { frames := 3, cells := 0, slots := 0, locals := 60 }
set_option maxHeartbeats 4000000 in
set_option maxRecDepth 100000 in
theorem c_Jx4a65c_init_da8c8 (l : Launch) (G : GG) (z : Nat) (ad : Nat → Nat) (M : Mem)  (h17 : M 17 = some (.inr (0, [.int (nI 0), .null, .int (nI 0)])))  : Met l yJx4a65c_init_da8c8 wsJx4a65c_init_da8c8 rm_c_Jx4a65c_init_da8c8 (Pr G z ad M [.ref (ad 17)]) (Nv G z ad (fun (M' : Mem) => M' 17 = some (cList ad (nI 0) G.2.2.2.2 0) ∧ (∀ j : Nat, j ≠ 17 → M' j = M j))) 0 0 (fr z) := by
  refine Met.ofW (cc := cJx4a65c_init_da8c8) (maxL := 1) (ret := none) (by decide) rfl ?_
  intro p e s m args below meth c s₁ B hml hv
  obtain ⟨rfl, hv⟩ := hv
  have hI := Iv.entry hv
  have hx := B.exec
  have hb := B.bytes
  have hr := B.returns
  have hts := atoms_spec (ws := wsJx4a65c_init_da8c8) B.pre
  have hown : s.vm.findClass RJx4a65c = some m.cls := findClass_of_methodNamed B.named
  have hlocks := B.notSynchronized
  have hini : meth.name = "<init>" := (name_of_methodNamed B.named B.method).1
  have sp_1 := hts _ (List.mem_cons_of_mem _ (lwg_of t_8 rfl))
  have in_1 := hts _ (List.mem_cons_of_mem _ (lwg_of t_125 rfl))
  have ml_1 := hts _ (List.mem_cons_of_mem _ (lwg_of t_124 rfl))
  have f_39 := hts _ (List.mem_cons_of_mem _ (lwg_of t_131 rfl))
  have f_9 := hts _ (List.mem_cons_of_mem _ (lwg_of t_133 rfl))
  have i_RJx4a65c : ∀ w ∈ u_ws RJx4a65c TJx4a65c 3, w ∈ wsJx4a65c_init_da8c8 := fun w h => List.mem_cons_of_mem _ (iu_Jx4a65c w h)
  have hl := lv_entry ([.ref (ad 17)]) (n := 1) (Nat.le_of_ble_eq_true rfl)
  rw [lg_entry_eq]
  generalize (lg_sl ([.ref (ad 17)]) ++ List.replicate (1 - (lg_sl ([.ref (ad 17)])).length) Slot.unset).toArray = ls at hl ⊢
  have hl : lv_has ls 1 [(0, .ref (ad 17))] := hl
  refine lv_aload_n hx hb dJx4a65c_init_da8c8_0 rfl (lv_at hl 0 rfl) ?_
  refine k_Nv (va_runI (As := []) (rest := []) ⟨hx, hb, hml, hown, hts⟩ (c_Jxc12de_init_da8c8 l G z ad M  h17) (cwI 0 hts (gU (lwg_of t_126 rfl)) rfl rfl rfl sp_1 ml_1 in_1 rfl (by decide +kernel) ⟨Nat.le_of_ble_eq_true rfl, Nat.le_of_ble_eq_true rfl⟩) hI.preS rfl rfl hl.1 rfl (lv_room (Nat.le_of_ble_eq_true rfl)) dJx4a65c_init_da8c8_1 ⟨Nat.le_of_ble_eq_true rfl, Nat.le_of_ble_eq_true rfl⟩) hI (fun M_3 H_4 locs_5 hp_2 hI => ?_)
  obtain ⟨hm_6, hF_7⟩ := hp_2
  have hF_8 : ∀ j : Nat, j ≠ 17 → M_3 j = M j := fun j q0 => (hF_7 j q0)
  refine lv_aload_n hx hb dJx4a65c_init_da8c8_4 rfl (lv_at hl 0 rfl) ?_
  refine va_gets (A := fr z) hx hb (iv_emp hI) hI.S hown f_39 (fun _ h => h) dJx4a65c_init_da8c8_5 ?_
  refine h_put (C := RJx4a65c) (T := TJx4a65c) (N := 3) hx hb hts i_RJx4a65c tyJx4a65c tyJx4a65c_ok nmJx4a65c hown hI hm_6 rfl 1 (by decide) f_9 rfl rfl rfl rfl (Nat.le_of_ble_eq_true rfl) dJx4a65c_init_da8c8_8 (fun M_9 H_10 locs_11 eM_12 hI => ?_)
  have hm_13 : M_9 17 = some (.inr (0, [.int (nI 0), .ref G.2.2.2.2, .int (nI 0)])) := by rw [eM_12]; exact va_up_self _ _ _
  have hF_14 : ∀ j : Nat, j ≠ 17 → M_9 j = M j := fun j q0 => by rw [eM_12, va_up_ne _ _ q0]; exact hF_8 j q0
  exact e_Nv hx hb hr hlocks hI ⟨hm_13, (fun j q0 => hF_14 j q0)⟩ dJx4a65c_init_da8c8_11

/-- X3_init -/
abbrev rm_c_X3_init : Room := { frames := 4, cells := 4, slots := 363, locals := 80 }
set_option maxHeartbeats 4000000 in
set_option maxRecDepth 100000 in
theorem c_X3_init (l : Launch) (G : GG) (z : Nat) (ad : Nat → Nat) (M : Mem)  (h16 : M 16 = some (.inr (4, [.null, .null, .null, .null]))) (fre0 : M 17 = none) (fre1 : M 19 = none) (fre2 : M 20 = none) (fre3 : M 21 = none) : Met l yX3_init wsX3_init rm_c_X3_init (Pr G z ad M [.ref (ad 16)]) (Av G z (fun (u : (Nat → Nat) × Mem) => u.2 16 = some (cLines u.1 ) ∧ u.2 17 = some (cList u.1 (nI 0) G.2.2.2.2 0) ∧ u.2 19 = some (aZ G 120 (bF (fun _ => false))) ∧ u.2 20 = some (aI G 120 (nF (fun _ => 0))) ∧ u.2 21 = some (aI G 120 (nF (fun _ => 0))) ∧ (∀ j : Nat, j ≠ 16 → j ≠ 17 → j ≠ 19 → j ≠ 20 → j ≠ 21 → u.2 j = M j) ∧ (∀ j : Nat, j ≠ 17 → j ≠ 19 → j ≠ 20 → j ≠ 21 → u.1 j = ad j))) 4 363 (fr z) := by
  refine Met.ofW (cc := cX3_init) (maxL := 1) (ret := none) (by decide) rfl ?_
  intro p e s m args below meth c s₁ B hml hv
  obtain ⟨rfl, hv⟩ := hv
  have hI := Iv.entry hv
  have hx := B.exec
  have hb := B.bytes
  have hr := B.returns
  have hts := atoms_spec (ws := wsX3_init) B.pre
  have hown : s.vm.findClass RX3 = some m.cls := findClass_of_methodNamed B.named
  have hlocks := B.notSynchronized
  have hini : meth.name = "<init>" := (name_of_methodNamed B.named B.method).1
  have m_3 := hts _ (List.mem_cons_of_mem _ (lwg_of t_118 rfl))
  have n_oi := hts _ (List.mem_cons_of_mem _ (lwg_of t_39 rfl))
  have n_oc := hts _ (List.mem_cons_of_mem _ (lwg_of t_40 rfl))
  have nw_i9 := hts _ (List.mem_cons_of_mem _ (lwg_of t_120 rfl))
  have nw_n9 := hts _ (List.mem_cons_of_mem _ (lwg_of t_9 rfl))
  have i_RJx4a65c : ∀ w ∈ u_ws RJx4a65c TJx4a65c 3, w ∈ wsX3_init := fun w h => List.mem_cons_of_mem _ (iu_Jx4a65c w h)
  have nw_c9 := hts _ (List.mem_cons_of_mem _ (lwg_of t_119 rfl))
  have sp_11 := hts _ (List.mem_cons_of_mem _ (lwg_of t_9 rfl))
  have in_11 := hts _ (List.mem_cons_of_mem _ (lwg_of t_122 rfl))
  have ml_11 := hts _ (List.mem_cons_of_mem _ (lwg_of t_121 rfl))
  have f_12 := hts _ (List.mem_cons_of_mem _ (lwg_of t_145 rfl))
  have i_RX3 : ∀ w ∈ u_ws RX3 TX3 4, w ∈ wsX3_init := fun w h => List.mem_cons_of_mem _ (iu_X3 w h)
  have na_boolean := hts _ (List.mem_cons_of_mem _ (lwg_of t_74 rfl))
  have f_18 := hts _ (List.mem_cons_of_mem _ (lwg_of t_146 rfl))
  have na_int := hts _ (List.mem_cons_of_mem _ (lwg_of t_54 rfl))
  have f_22 := hts _ (List.mem_cons_of_mem _ (lwg_of t_147 rfl))
  have f_26 := hts _ (List.mem_cons_of_mem _ (lwg_of t_148 rfl))
  have hl := lv_entry ([.ref (ad 16)]) (n := 1) (Nat.le_of_ble_eq_true rfl)
  rw [lg_entry_eq]
  generalize (lg_sl ([.ref (ad 16)]) ++ List.replicate (1 - (lg_sl ([.ref (ad 16)])).length) Slot.unset).toArray = ls at hl ⊢
  have hl : lv_has ls 1 [(0, .ref (ad 16))] := hl
  refine lv_aload_n hx hb dX3_init_0 rfl (lv_at hl 0 rfl) ?_
  refine W.objInit hx hb hown m_3 n_oi n_oc rfl (by rw [hml]; exact hl.1) rfl dX3_init_1 (Nat.le_of_ble_eq_true rfl) (Nat.le_of_ble_eq_true rfl) ?_
  refine W.eq (g2 := F0 m 4 ls []) rfl ?_
  refine lv_aload_n hx hb dX3_init_4 rfl (lv_at hl 0 rfl) ?_
  refine h_new (C := RJx4a65c) (T := TJx4a65c) (N := 3) (ci := 0) (fs := [.int (nI 0), .null, .int (nI 0)]) hx hb hts i_RJx4a65c tyJx4a65c tyJx4a65c_ok hown nw_c9 nw_i9 nw_n9 hI rfl (fun j hj => match j, hj with | 0, _ => rfl | 1, _ => rfl | 2, _ => rfl | n + 3, h => absurd h (by omega)) (Nat.le_of_ble_eq_true rfl) (Nat.le_of_ble_eq_true rfl) dX3_init_5 17 fre0 (fun ad_1 M_2 H_3 hA_4 eM_5 hI => ?_)
  have hAd_7 : ∀ j : Nat, j ≠ 17 → ad_1 j = ad j := fun j hj => by obtain ⟨q, e⟩ := hA_4; rw [e]; exact va_up_ne _ _ hj
  have hm_8 : M_2 17 = some (.inr (0, [.int (nI 0), .null, .int (nI 0)])) := by rw [eM_5]; exact va_up_self _ _ _
  have hm_9 : M_2 16 = some (.inr (4, [.null, .null, .null, .null])) := by rw [eM_5, va_up_ne _ _ (by decide), h16]
  have fr_10 : M_2 19 = none := by rw [eM_5, va_up_ne _ _ (by decide)]; exact fre1
  have fr_11 : M_2 20 = none := by rw [eM_5, va_up_ne _ _ (by decide)]; exact fre2
  have fr_12 : M_2 21 = none := by rw [eM_5, va_up_ne _ _ (by decide)]; exact fre3
  have hF_13 : ∀ j : Nat, j ≠ 17 → M_2 j = M j := fun j q0 => by rw [eM_5, va_up_ne _ _ q0]
  refine n_eqs (show ([.ref (ad_1 17), .ref (ad 16)] : List Value) = [.ref (ad_1 17), .ref (ad_1 16)] from by rw [hAd_7 16 (by decide)]) ?_
  refine lv_dup hx hb dX3_init_8 rfl ?_
  refine k_Nv (va_runI (As := []) (rest := [.ref (ad_1 17), .ref (ad_1 16)]) ⟨hx, hb, hml, hown, hts⟩ (c_Jx4a65c_init_da8c8 l G z ad_1 M_2  hm_8) (cwI 0 hts (gU (lwg_of t_123 rfl)) rfl rfl rfl sp_11 ml_11 in_11 rfl (by decide +kernel) ⟨Nat.le_of_ble_eq_true rfl, Nat.le_of_ble_eq_true rfl⟩) hI.preS rfl rfl hl.1 rfl (lv_room (Nat.le_of_ble_eq_true rfl)) dX3_init_9 ⟨Nat.le_of_ble_eq_true rfl, Nat.le_of_ble_eq_true rfl⟩) hI (fun M_16 H_17 locs_18 hp_15 hI => ?_)
  obtain ⟨hm_19, hF_20⟩ := hp_15
  have hm_21 : M_16 16 = some (.inr (4, [.null, .null, .null, .null])) := by rw [hF_20 16 (by omega)]; exact hm_9
  have fr_22 : M_16 19 = none := by rw [hF_20 19 (by omega)]; exact fr_10
  have fr_23 : M_16 20 = none := by rw [hF_20 20 (by omega)]; exact fr_11
  have fr_24 : M_16 21 = none := by rw [hF_20 21 (by omega)]; exact fr_12
  have hF_25 : ∀ j : Nat, j ≠ 17 → M_16 j = M j := fun j q0 => (hF_20 j q0).trans (hF_13 j q0)
  refine h_putF (C := RX3) (T := TX3) (N := 4) hx hb hts i_RX3 tyX3 tyX3_ok nmX3 hown hI hm_21 rfl 0 (by decide) f_12 rfl rfl hini rfl rfl rfl (Nat.le_of_ble_eq_true rfl) dX3_init_12 (fun M_26 H_27 locs_28 eM_29 hI => ?_)
  have hm_30 : M_26 16 = some (.inr (4, [.ref (ad_1 17), .null, .null, .null])) := by rw [eM_29]; exact va_up_self _ _ _
  have hm_31 : M_26 17 = some (cList ad_1 (nI 0) G.2.2.2.2 0) := by rw [eM_29, va_up_ne _ _ (by decide)]; exact hm_19
  have fr_32 : M_26 19 = none := by rw [eM_29, va_up_ne _ _ (by decide)]; exact fr_22
  have fr_33 : M_26 20 = none := by rw [eM_29, va_up_ne _ _ (by decide)]; exact fr_23
  have fr_34 : M_26 21 = none := by rw [eM_29, va_up_ne _ _ (by decide)]; exact fr_24
  have hF_35 : ∀ j : Nat, j ≠ 17 → j ≠ 16 → M_26 j = M j := fun j q0 q1 => by rw [eM_29, va_up_ne _ _ q1]; exact hF_25 j q0
  clear hm_21 hm_19 fr_22 fr_23 fr_24 hF_25
  refine lv_aload_n hx hb dX3_init_15 rfl (lv_at hl 0 rfl) ?_
  refine n_eqv (show Value.ref (ad 16) = .ref (ad_1 16) from by rw [hAd_7 16 (by decide)]) ?_
  refine lv_bipush (v := nI 120) hx hb dX3_init_16 (by decide) ?_
  refine h_newa (atype := .boolean) (n := 120) (a0 := (120, .inl (bF (fun _ => false)))) hx hb na_boolean 1 (ty := .boolean) rfl rfl (fun C h => by cases h) hI (ha_boolean 120) (by decide) (by decide) (Nat.le_of_ble_eq_true rfl) (Nat.le_of_ble_eq_true rfl) dX3_init_18 19 fr_32 (fun ad_36 M_37 H_38 hA_39 eM_40 hI => ?_)
  have hAd_42 : ∀ j : Nat, j ≠ 19 → ad_36 j = ad_1 j := fun j hj => by obtain ⟨q, e⟩ := hA_39; rw [e]; exact va_up_ne _ _ hj
  have hm_43 : M_37 19 = some (aZ G 120 (bF (fun _ => false))) := by rw [eM_40]; exact va_up_self _ _ _
  have hm_44 : M_37 16 = some (.inr (4, [.ref (ad_36 17), .null, .null, .null])) := by rw [eM_40, va_up_ne _ _ (by decide), hm_30]; rw [hAd_42 17 (by decide)]
  have hm_45 : M_37 17 = some (cList ad_36 (nI 0) G.2.2.2.2 0) := by rw [eM_40, va_up_ne _ _ (by decide), hm_31]
  have fr_46 : M_37 20 = none := by rw [eM_40, va_up_ne _ _ (by decide)]; exact fr_33
  have fr_47 : M_37 21 = none := by rw [eM_40, va_up_ne _ _ (by decide)]; exact fr_34
  clear hm_30 hm_31 fr_33 fr_34
  have hF_48 : ∀ j : Nat, j ≠ 17 → j ≠ 16 → j ≠ 19 → M_37 j = M j := fun j q0 q1 q2 => by rw [eM_40, va_up_ne _ _ q2]; exact hF_35 j q0 q1
  clear hF_35
  refine n_eqs (show ([.ref (ad_36 19), .ref (ad_1 16)] : List Value) = [.ref (ad_36 19), .ref (ad_36 16)] from by rw [hAd_42 16 (by decide)]) ?_
  refine h_putF (C := RX3) (T := TX3) (N := 4) hx hb hts i_RX3 tyX3 tyX3_ok nmX3 hown hI hm_44 rfl 1 (by decide) f_18 rfl rfl hini rfl rfl rfl (Nat.le_of_ble_eq_true rfl) dX3_init_20 (fun M_49 H_50 locs_51 eM_52 hI => ?_)
  have hm_53 : M_49 16 = some (.inr (4, [.ref (ad_36 17), .ref (ad_36 19), .null, .null])) := by rw [eM_52]; exact va_up_self _ _ _
  have hm_54 : M_49 17 = some (cList ad_36 (nI 0) G.2.2.2.2 0) := by rw [eM_52, va_up_ne _ _ (by decide)]; exact hm_45
  have hm_55 : M_49 19 = some (aZ G 120 (bF (fun _ => false))) := by rw [eM_52, va_up_ne _ _ (by decide)]; exact hm_43
  have fr_56 : M_49 20 = none := by rw [eM_52, va_up_ne _ _ (by decide)]; exact fr_46
  have fr_57 : M_49 21 = none := by rw [eM_52, va_up_ne _ _ (by decide)]; exact fr_47
  have hF_58 : ∀ j : Nat, j ≠ 17 → j ≠ 16 → j ≠ 19 → M_49 j = M j := fun j q0 q1 q2 => by rw [eM_52, va_up_ne _ _ q1]; exact hF_48 j q0 q1 q2
  clear hm_44 hm_45 hm_43 fr_46 fr_47 hF_48
  refine lv_aload_n hx hb dX3_init_23 rfl (lv_at hl 0 rfl) ?_
  refine n_eqv (show Value.ref (ad 16) = .ref (ad_36 16) from by rw [hAd_42 16 (by decide), hAd_7 16 (by decide)]) ?_
  refine lv_bipush (v := nI 120) hx hb dX3_init_24 (by decide) ?_
  refine h_newa (atype := .int) (n := 120) (a0 := (120, .inl (nF (fun _ => 0)))) hx hb na_int 0 (ty := .int) rfl rfl (fun C h => by cases h) hI (ha_int 120) (by decide) (by decide) (Nat.le_of_ble_eq_true rfl) (Nat.le_of_ble_eq_true rfl) dX3_init_26 20 fr_56 (fun ad_59 M_60 H_61 hA_62 eM_63 hI => ?_)
  have hAd_65 : ∀ j : Nat, j ≠ 20 → ad_59 j = ad_36 j := fun j hj => by obtain ⟨q, e⟩ := hA_62; rw [e]; exact va_up_ne _ _ hj
  have hm_66 : M_60 20 = some (aI G 120 (nF (fun _ => 0))) := by rw [eM_63]; exact va_up_self _ _ _
  have hm_67 : M_60 16 = some (.inr (4, [.ref (ad_59 17), .ref (ad_59 19), .null, .null])) := by rw [eM_63, va_up_ne _ _ (by decide), hm_53]; rw [hAd_65 17 (by decide), hAd_65 19 (by decide)]
  have hm_68 : M_60 17 = some (cList ad_59 (nI 0) G.2.2.2.2 0) := by rw [eM_63, va_up_ne _ _ (by decide), hm_54]
  have hm_69 : M_60 19 = some (aZ G 120 (bF (fun _ => false))) := by rw [eM_63, va_up_ne _ _ (by decide), hm_55]
  have fr_70 : M_60 21 = none := by rw [eM_63, va_up_ne _ _ (by decide)]; exact fr_57
  clear hm_53 hm_54 hm_55 fr_57
  have hF_71 : ∀ j : Nat, j ≠ 17 → j ≠ 16 → j ≠ 19 → j ≠ 20 → M_60 j = M j := fun j q0 q1 q2 q3 => by rw [eM_63, va_up_ne _ _ q3]; exact hF_58 j q0 q1 q2
  clear hF_58
  refine n_eqs (show ([.ref (ad_59 20), .ref (ad_36 16)] : List Value) = [.ref (ad_59 20), .ref (ad_59 16)] from by rw [hAd_65 16 (by decide)]) ?_
  refine h_putF (C := RX3) (T := TX3) (N := 4) hx hb hts i_RX3 tyX3 tyX3_ok nmX3 hown hI hm_67 rfl 2 (by decide) f_22 rfl rfl hini rfl rfl rfl (Nat.le_of_ble_eq_true rfl) dX3_init_28 (fun M_72 H_73 locs_74 eM_75 hI => ?_)
  have hm_76 : M_72 16 = some (.inr (4, [.ref (ad_59 17), .ref (ad_59 19), .ref (ad_59 20), .null])) := by rw [eM_75]; exact va_up_self _ _ _
  have hm_77 : M_72 17 = some (cList ad_59 (nI 0) G.2.2.2.2 0) := by rw [eM_75, va_up_ne _ _ (by decide)]; exact hm_68
  have hm_78 : M_72 19 = some (aZ G 120 (bF (fun _ => false))) := by rw [eM_75, va_up_ne _ _ (by decide)]; exact hm_69
  have hm_79 : M_72 20 = some (aI G 120 (nF (fun _ => 0))) := by rw [eM_75, va_up_ne _ _ (by decide)]; exact hm_66
  have fr_80 : M_72 21 = none := by rw [eM_75, va_up_ne _ _ (by decide)]; exact fr_70
  have hF_81 : ∀ j : Nat, j ≠ 17 → j ≠ 16 → j ≠ 19 → j ≠ 20 → M_72 j = M j := fun j q0 q1 q2 q3 => by rw [eM_75, va_up_ne _ _ q1]; exact hF_71 j q0 q1 q2 q3
  clear hm_67 hm_68 hm_69 hm_66 fr_70 hF_71
  refine lv_aload_n hx hb dX3_init_31 rfl (lv_at hl 0 rfl) ?_
  refine n_eqv (show Value.ref (ad 16) = .ref (ad_59 16) from by rw [hAd_65 16 (by decide), hAd_42 16 (by decide), hAd_7 16 (by decide)]) ?_
  refine lv_bipush (v := nI 120) hx hb dX3_init_32 (by decide) ?_
  refine h_newa (atype := .int) (n := 120) (a0 := (120, .inl (nF (fun _ => 0)))) hx hb na_int 0 (ty := .int) rfl rfl (fun C h => by cases h) hI (ha_int 120) (by decide) (by decide) (Nat.le_of_ble_eq_true rfl) (Nat.le_of_ble_eq_true rfl) dX3_init_34 21 fr_80 (fun ad_82 M_83 H_84 hA_85 eM_86 hI => ?_)
  have hAd_88 : ∀ j : Nat, j ≠ 21 → ad_82 j = ad_59 j := fun j hj => by obtain ⟨q, e⟩ := hA_85; rw [e]; exact va_up_ne _ _ hj
  have hm_89 : M_83 21 = some (aI G 120 (nF (fun _ => 0))) := by rw [eM_86]; exact va_up_self _ _ _
  have hm_90 : M_83 16 = some (.inr (4, [.ref (ad_82 17), .ref (ad_82 19), .ref (ad_82 20), .null])) := by rw [eM_86, va_up_ne _ _ (by decide), hm_76]; rw [hAd_88 17 (by decide), hAd_88 19 (by decide), hAd_88 20 (by decide)]
  have hm_91 : M_83 17 = some (cList ad_82 (nI 0) G.2.2.2.2 0) := by rw [eM_86, va_up_ne _ _ (by decide), hm_77]
  have hm_92 : M_83 19 = some (aZ G 120 (bF (fun _ => false))) := by rw [eM_86, va_up_ne _ _ (by decide), hm_78]
  have hm_93 : M_83 20 = some (aI G 120 (nF (fun _ => 0))) := by rw [eM_86, va_up_ne _ _ (by decide), hm_79]
  clear hm_76 hm_77 hm_78 hm_79
  have hF_94 : ∀ j : Nat, j ≠ 17 → j ≠ 16 → j ≠ 19 → j ≠ 20 → j ≠ 21 → M_83 j = M j := fun j q0 q1 q2 q3 q4 => by rw [eM_86, va_up_ne _ _ q4]; exact hF_81 j q0 q1 q2 q3
  clear hF_81
  refine n_eqs (show ([.ref (ad_82 21), .ref (ad_59 16)] : List Value) = [.ref (ad_82 21), .ref (ad_82 16)] from by rw [hAd_88 16 (by decide)]) ?_
  refine h_putF (C := RX3) (T := TX3) (N := 4) hx hb hts i_RX3 tyX3 tyX3_ok nmX3 hown hI hm_90 rfl 3 (by decide) f_26 rfl rfl hini rfl rfl rfl (Nat.le_of_ble_eq_true rfl) dX3_init_36 (fun M_95 H_96 locs_97 eM_98 hI => ?_)
  have hm_99 : M_95 16 = some (.inr (4, [.ref (ad_82 17), .ref (ad_82 19), .ref (ad_82 20), .ref (ad_82 21)])) := by rw [eM_98]; exact va_up_self _ _ _
  have hm_100 : M_95 17 = some (cList ad_82 (nI 0) G.2.2.2.2 0) := by rw [eM_98, va_up_ne _ _ (by decide)]; exact hm_91
  have hm_101 : M_95 19 = some (aZ G 120 (bF (fun _ => false))) := by rw [eM_98, va_up_ne _ _ (by decide)]; exact hm_92
  have hm_102 : M_95 20 = some (aI G 120 (nF (fun _ => 0))) := by rw [eM_98, va_up_ne _ _ (by decide)]; exact hm_93
  have hm_103 : M_95 21 = some (aI G 120 (nF (fun _ => 0))) := by rw [eM_98, va_up_ne _ _ (by decide)]; exact hm_89
  have hF_104 : ∀ j : Nat, j ≠ 17 → j ≠ 16 → j ≠ 19 → j ≠ 20 → j ≠ 21 → M_95 j = M j := fun j q0 q1 q2 q3 q4 => by rw [eM_98, va_up_ne _ _ q1]; exact hF_94 j q0 q1 q2 q3 q4
  clear hm_90 hm_91 hm_92 hm_93 hm_89 hF_94
  exact e_Av hx hb hr hlocks hI ⟨hm_99, hm_100, hm_101, hm_102, hm_103, (fun j q0 q1 q2 q3 q4 => hF_104 j q1 q0 q2 q3 q4), (fun j q0 q1 q2 q3 => (by show ad_82 j = ad j; rw [hAd_88 j q3, hAd_65 j q2, hAd_42 j q1, hAd_7 j q0]))⟩ dX3_init_39

/-- X1_init -/
abbrev rm_c_X1_init : Room := { frames := 1, cells := 4, slots := 114, locals := 20 }
set_option maxHeartbeats 4000000 in
set_option maxRecDepth 100000 in
theorem c_X1_init (l : Launch) (G : GG) (z : Nat) (ad : Nat → Nat) (M : Mem)  (h3 : M 3 = some (.inr (2, [.null, .null, .null, .null]))) (fre0 : M 4 = none) (fre1 : M 5 = none) (fre2 : M 6 = none) (fre3 : M 7 = none) : Met l yX1_init wsX1_init rm_c_X1_init (Pr G z ad M [.ref (ad 3)]) (Av G z (fun (u : (Nat → Nat) × Mem) => ∃ mo : Nat → Nat, ∃ ho : Nat → Bool, u.2 3 = some (cLaws u.1 ) ∧ u.2 4 = some (aI G 36 (nF (fun _ => 0))) ∧ u.2 5 = some (aI G 36 (nF mo)) ∧ u.2 6 = some (aI G 36 (nF (fun _ => 0))) ∧ u.2 7 = some (aZ G 6 (bF ho)) ∧ (∀ j : Nat, j ≠ 3 → j ≠ 4 → j ≠ 5 → j ≠ 6 → j ≠ 7 → u.2 j = M j) ∧ (∀ j : Nat, j ≠ 4 → j ≠ 5 → j ≠ 6 → j ≠ 7 → u.1 j = ad j) ∧ ((∀ i, i < 36 → mo i = 6) ∧ ∀ i, i < 6 → ho i = true))) 4 114 (fr z) := by
  refine Met.ofW (cc := cX1_init) (maxL := 2) (ret := none) (by decide) rfl ?_
  intro p e s m args below meth c s₁ B hml hv
  obtain ⟨rfl, hv⟩ := hv
  have hI := Iv.entry hv
  have hx := B.exec
  have hb := B.bytes
  have hr := B.returns
  have hts := atoms_spec (ws := wsX1_init) B.pre
  have hown : s.vm.findClass RX1 = some m.cls := findClass_of_methodNamed B.named
  have hlocks := B.notSynchronized
  have hini : meth.name = "<init>" := (name_of_methodNamed B.named B.method).1
  have m_3 := hts _ (List.mem_cons_of_mem _ (lwg_of t_60 rfl))
  have n_oi := hts _ (List.mem_cons_of_mem _ (lwg_of t_39 rfl))
  have n_oc := hts _ (List.mem_cons_of_mem _ (lwg_of t_40 rfl))
  have na_int := hts _ (List.mem_cons_of_mem _ (lwg_of t_54 rfl))
  have f_9 := hts _ (List.mem_cons_of_mem _ (lwg_of t_61 rfl))
  have i_RX1 : ∀ w ∈ u_ws RX1 TX1 4, w ∈ wsX1_init := fun w h => List.mem_cons_of_mem _ (iu_X1 w h)
  have f_15 := hts _ (List.mem_cons_of_mem _ (lwg_of t_62 rfl))
  have f_18 := hts _ (List.mem_cons_of_mem _ (lwg_of t_63 rfl))
  have na_boolean := hts _ (List.mem_cons_of_mem _ (lwg_of t_74 rfl))
  have f_21 := hts _ (List.mem_cons_of_mem _ (lwg_of t_64 rfl))
  have hl := lv_entry ([.ref (ad 3)]) (n := 2) (Nat.le_of_ble_eq_true rfl)
  rw [lg_entry_eq]
  generalize (lg_sl ([.ref (ad 3)]) ++ List.replicate (2 - (lg_sl ([.ref (ad 3)])).length) Slot.unset).toArray = ls at hl ⊢
  have hl : lv_has ls 2 [(0, .ref (ad 3))] := hl
  refine w_q (fun Q hQ => ?_)
  refine lv_aload_n hx hb dX1_init_0 rfl (lv_at hl 0 rfl) ?_
  refine W.objInit hx hb hown m_3 n_oi n_oc rfl (by rw [hml]; exact hl.1) rfl dX1_init_1 (Nat.le_of_ble_eq_true rfl) (Nat.le_of_ble_eq_true rfl) ?_
  refine W.eq (g2 := F0 m 4 ls []) rfl ?_
  refine lv_aload_n hx hb dX1_init_4 rfl (lv_at hl 0 rfl) ?_
  refine lv_bipush (v := nI 36) hx hb dX1_init_5 (by decide) ?_
  refine h_newa (atype := .int) (n := 36) (a0 := (36, .inl (nF (fun _ => 0)))) hx hb na_int 0 (ty := .int) rfl rfl (fun C h => by cases h) hI (ha_int 36) (by decide) (by decide) (Nat.le_of_ble_eq_true rfl) (Nat.le_of_ble_eq_true rfl) dX1_init_7 4 fre0 (fun ad_1 M_2 H_3 hA_4 eM_5 hI => ?_)
  have hAd_7 : ∀ j : Nat, j ≠ 4 → ad_1 j = ad j := fun j hj => by obtain ⟨q, e⟩ := hA_4; rw [e]; exact va_up_ne _ _ hj
  have hm_8 : M_2 4 = some (aI G 36 (nF (fun _ => 0))) := by rw [eM_5]; exact va_up_self _ _ _
  have hm_9 : M_2 3 = some (.inr (2, [.null, .null, .null, .null])) := by rw [eM_5, va_up_ne _ _ (by decide), h3]
  have fr_10 : M_2 5 = none := by rw [eM_5, va_up_ne _ _ (by decide)]; exact fre1
  have fr_11 : M_2 6 = none := by rw [eM_5, va_up_ne _ _ (by decide)]; exact fre2
  have fr_12 : M_2 7 = none := by rw [eM_5, va_up_ne _ _ (by decide)]; exact fre3
  have hF_13 : ∀ j : Nat, j ≠ 4 → M_2 j = M j := fun j q0 => by rw [eM_5, va_up_ne _ _ q0]
  refine n_eqs (show ([.ref (ad_1 4), .ref (ad 3)] : List Value) = [.ref (ad_1 4), .ref (ad_1 3)] from by rw [hAd_7 3 (by decide)]) ?_
  refine h_putF (C := RX1) (T := TX1) (N := 4) hx hb hts i_RX1 tyX1 tyX1_ok nmX1 hown hI hm_9 rfl 0 (by decide) f_9 rfl rfl hini rfl rfl rfl (Nat.le_of_ble_eq_true rfl) dX1_init_9 (fun M_14 H_15 locs_16 eM_17 hI => ?_)
  have hm_18 : M_14 3 = some (.inr (2, [.ref (ad_1 4), .null, .null, .null])) := by rw [eM_17]; exact va_up_self _ _ _
  have hm_19 : M_14 4 = some (aI G 36 (nF (fun _ => 0))) := by rw [eM_17, va_up_ne _ _ (by decide)]; exact hm_8
  have fr_20 : M_14 5 = none := by rw [eM_17, va_up_ne _ _ (by decide)]; exact fr_10
  have fr_21 : M_14 6 = none := by rw [eM_17, va_up_ne _ _ (by decide)]; exact fr_11
  have fr_22 : M_14 7 = none := by rw [eM_17, va_up_ne _ _ (by decide)]; exact fr_12
  have hF_23 : ∀ j : Nat, j ≠ 4 → j ≠ 3 → M_14 j = M j := fun j q0 q1 => by rw [eM_17, va_up_ne _ _ q1]; exact hF_13 j q0
  clear hm_9 hm_8 fr_10 fr_11 fr_12 hF_13
  refine lv_aload_n hx hb dX1_init_12 rfl (lv_at hl 0 rfl) ?_
  refine n_eqv (show Value.ref (ad 3) = .ref (ad_1 3) from by rw [hAd_7 3 (by decide)]) ?_
  refine lv_bipush (v := nI 36) hx hb dX1_init_13 (by decide) ?_
  refine h_newa (atype := .int) (n := 36) (a0 := (36, .inl (nF (fun _ => 0)))) hx hb na_int 0 (ty := .int) rfl rfl (fun C h => by cases h) hI (ha_int 36) (by decide) (by decide) (Nat.le_of_ble_eq_true rfl) (Nat.le_of_ble_eq_true rfl) dX1_init_15 5 fr_20 (fun ad_24 M_25 H_26 hA_27 eM_28 hI => ?_)
  have hAd_30 : ∀ j : Nat, j ≠ 5 → ad_24 j = ad_1 j := fun j hj => by obtain ⟨q, e⟩ := hA_27; rw [e]; exact va_up_ne _ _ hj
  have hm_31 : M_25 5 = some (aI G 36 (nF (fun _ => 0))) := by rw [eM_28]; exact va_up_self _ _ _
  have hm_32 : M_25 3 = some (.inr (2, [.ref (ad_24 4), .null, .null, .null])) := by rw [eM_28, va_up_ne _ _ (by decide), hm_18]; rw [hAd_30 4 (by decide)]
  have hm_33 : M_25 4 = some (aI G 36 (nF (fun _ => 0))) := by rw [eM_28, va_up_ne _ _ (by decide), hm_19]
  have fr_34 : M_25 6 = none := by rw [eM_28, va_up_ne _ _ (by decide)]; exact fr_21
  have fr_35 : M_25 7 = none := by rw [eM_28, va_up_ne _ _ (by decide)]; exact fr_22
  clear hm_18 hm_19 fr_21 fr_22
  have hF_36 : ∀ j : Nat, j ≠ 4 → j ≠ 3 → j ≠ 5 → M_25 j = M j := fun j q0 q1 q2 => by rw [eM_28, va_up_ne _ _ q2]; exact hF_23 j q0 q1
  clear hF_23
  refine n_eqs (show ([.ref (ad_24 5), .ref (ad_1 3)] : List Value) = [.ref (ad_24 5), .ref (ad_24 3)] from by rw [hAd_30 3 (by decide)]) ?_
  refine h_putF (C := RX1) (T := TX1) (N := 4) hx hb hts i_RX1 tyX1 tyX1_ok nmX1 hown hI hm_32 rfl 1 (by decide) f_15 rfl rfl hini rfl rfl rfl (Nat.le_of_ble_eq_true rfl) dX1_init_17 (fun M_37 H_38 locs_39 eM_40 hI => ?_)
  have hm_41 : M_37 3 = some (.inr (2, [.ref (ad_24 4), .ref (ad_24 5), .null, .null])) := by rw [eM_40]; exact va_up_self _ _ _
  have hm_42 : M_37 4 = some (aI G 36 (nF (fun _ => 0))) := by rw [eM_40, va_up_ne _ _ (by decide)]; exact hm_33
  have hm_43 : M_37 5 = some (aI G 36 (nF (fun _ => 0))) := by rw [eM_40, va_up_ne _ _ (by decide)]; exact hm_31
  have fr_44 : M_37 6 = none := by rw [eM_40, va_up_ne _ _ (by decide)]; exact fr_34
  have fr_45 : M_37 7 = none := by rw [eM_40, va_up_ne _ _ (by decide)]; exact fr_35
  have hF_46 : ∀ j : Nat, j ≠ 4 → j ≠ 3 → j ≠ 5 → M_37 j = M j := fun j q0 q1 q2 => by rw [eM_40, va_up_ne _ _ q1]; exact hF_36 j q0 q1 q2
  clear hm_32 hm_33 hm_31 fr_34 fr_35 hF_36
  refine lv_aload_n hx hb dX1_init_20 rfl (lv_at hl 0 rfl) ?_
  refine n_eqv (show Value.ref (ad 3) = .ref (ad_24 3) from by rw [hAd_30 3 (by decide), hAd_7 3 (by decide)]) ?_
  refine lv_bipush (v := nI 36) hx hb dX1_init_21 (by decide) ?_
  refine h_newa (atype := .int) (n := 36) (a0 := (36, .inl (nF (fun _ => 0)))) hx hb na_int 0 (ty := .int) rfl rfl (fun C h => by cases h) hI (ha_int 36) (by decide) (by decide) (Nat.le_of_ble_eq_true rfl) (Nat.le_of_ble_eq_true rfl) dX1_init_23 6 fr_44 (fun ad_47 M_48 H_49 hA_50 eM_51 hI => ?_)
  have hAd_53 : ∀ j : Nat, j ≠ 6 → ad_47 j = ad_24 j := fun j hj => by obtain ⟨q, e⟩ := hA_50; rw [e]; exact va_up_ne _ _ hj
  have hm_54 : M_48 6 = some (aI G 36 (nF (fun _ => 0))) := by rw [eM_51]; exact va_up_self _ _ _
  have hm_55 : M_48 3 = some (.inr (2, [.ref (ad_47 4), .ref (ad_47 5), .null, .null])) := by rw [eM_51, va_up_ne _ _ (by decide), hm_41]; rw [hAd_53 4 (by decide), hAd_53 5 (by decide)]
  have hm_56 : M_48 4 = some (aI G 36 (nF (fun _ => 0))) := by rw [eM_51, va_up_ne _ _ (by decide), hm_42]
  have hm_57 : M_48 5 = some (aI G 36 (nF (fun _ => 0))) := by rw [eM_51, va_up_ne _ _ (by decide), hm_43]
  have fr_58 : M_48 7 = none := by rw [eM_51, va_up_ne _ _ (by decide)]; exact fr_45
  clear hm_41 hm_42 hm_43 fr_45
  have hF_59 : ∀ j : Nat, j ≠ 4 → j ≠ 3 → j ≠ 5 → j ≠ 6 → M_48 j = M j := fun j q0 q1 q2 q3 => by rw [eM_51, va_up_ne _ _ q3]; exact hF_46 j q0 q1 q2
  clear hF_46
  refine n_eqs (show ([.ref (ad_47 6), .ref (ad_24 3)] : List Value) = [.ref (ad_47 6), .ref (ad_47 3)] from by rw [hAd_53 3 (by decide)]) ?_
  refine h_putF (C := RX1) (T := TX1) (N := 4) hx hb hts i_RX1 tyX1 tyX1_ok nmX1 hown hI hm_55 rfl 2 (by decide) f_18 rfl rfl hini rfl rfl rfl (Nat.le_of_ble_eq_true rfl) dX1_init_25 (fun M_60 H_61 locs_62 eM_63 hI => ?_)
  have hm_64 : M_60 3 = some (.inr (2, [.ref (ad_47 4), .ref (ad_47 5), .ref (ad_47 6), .null])) := by rw [eM_63]; exact va_up_self _ _ _
  have hm_65 : M_60 4 = some (aI G 36 (nF (fun _ => 0))) := by rw [eM_63, va_up_ne _ _ (by decide)]; exact hm_56
  have hm_66 : M_60 5 = some (aI G 36 (nF (fun _ => 0))) := by rw [eM_63, va_up_ne _ _ (by decide)]; exact hm_57
  have hm_67 : M_60 6 = some (aI G 36 (nF (fun _ => 0))) := by rw [eM_63, va_up_ne _ _ (by decide)]; exact hm_54
  have fr_68 : M_60 7 = none := by rw [eM_63, va_up_ne _ _ (by decide)]; exact fr_58
  have hF_69 : ∀ j : Nat, j ≠ 4 → j ≠ 3 → j ≠ 5 → j ≠ 6 → M_60 j = M j := fun j q0 q1 q2 q3 => by rw [eM_63, va_up_ne _ _ q1]; exact hF_59 j q0 q1 q2 q3
  clear hm_55 hm_56 hm_57 hm_54 fr_58 hF_59
  refine lv_aload_n hx hb dX1_init_28 rfl (lv_at hl 0 rfl) ?_
  refine n_eqv (show Value.ref (ad 3) = .ref (ad_47 3) from by rw [hAd_53 3 (by decide), hAd_30 3 (by decide), hAd_7 3 (by decide)]) ?_
  refine lv_bipush (v := nI 6) hx hb dX1_init_29 (by decide) ?_
  refine h_newa (atype := .boolean) (n := 6) (a0 := (6, .inl (bF (fun _ => false)))) hx hb na_boolean 1 (ty := .boolean) rfl rfl (fun C h => by cases h) hI (ha_boolean 6) (by decide) (by decide) (Nat.le_of_ble_eq_true rfl) (Nat.le_of_ble_eq_true rfl) dX1_init_31 7 fr_68 (fun ad_70 M_71 H_72 hA_73 eM_74 hI => ?_)
  have hAd_76 : ∀ j : Nat, j ≠ 7 → ad_70 j = ad_47 j := fun j hj => by obtain ⟨q, e⟩ := hA_73; rw [e]; exact va_up_ne _ _ hj
  have hm_77 : M_71 7 = some (aZ G 6 (bF (fun _ => false))) := by rw [eM_74]; exact va_up_self _ _ _
  have hm_78 : M_71 3 = some (.inr (2, [.ref (ad_70 4), .ref (ad_70 5), .ref (ad_70 6), .null])) := by rw [eM_74, va_up_ne _ _ (by decide), hm_64]; rw [hAd_76 4 (by decide), hAd_76 5 (by decide), hAd_76 6 (by decide)]
  have hm_79 : M_71 4 = some (aI G 36 (nF (fun _ => 0))) := by rw [eM_74, va_up_ne _ _ (by decide), hm_65]
  have hm_80 : M_71 5 = some (aI G 36 (nF (fun _ => 0))) := by rw [eM_74, va_up_ne _ _ (by decide), hm_66]
  have hm_81 : M_71 6 = some (aI G 36 (nF (fun _ => 0))) := by rw [eM_74, va_up_ne _ _ (by decide), hm_67]
  clear hm_64 hm_65 hm_66 hm_67
  have hF_82 : ∀ j : Nat, j ≠ 4 → j ≠ 3 → j ≠ 5 → j ≠ 6 → j ≠ 7 → M_71 j = M j := fun j q0 q1 q2 q3 q4 => by rw [eM_74, va_up_ne _ _ q4]; exact hF_69 j q0 q1 q2 q3
  clear hF_69
  refine n_eqs (show ([.ref (ad_70 7), .ref (ad_47 3)] : List Value) = [.ref (ad_70 7), .ref (ad_70 3)] from by rw [hAd_76 3 (by decide)]) ?_
  refine h_putF (C := RX1) (T := TX1) (N := 4) hx hb hts i_RX1 tyX1 tyX1_ok nmX1 hown hI hm_78 rfl 3 (by decide) f_21 rfl rfl hini rfl rfl rfl (Nat.le_of_ble_eq_true rfl) dX1_init_33 (fun M_83 H_84 locs_85 eM_86 hI => ?_)
  have hm_87 : M_83 3 = some (.inr (2, [.ref (ad_70 4), .ref (ad_70 5), .ref (ad_70 6), .ref (ad_70 7)])) := by rw [eM_86]; exact va_up_self _ _ _
  have hm_88 : M_83 4 = some (aI G 36 (nF (fun _ => 0))) := by rw [eM_86, va_up_ne _ _ (by decide)]; exact hm_79
  have hm_89 : M_83 5 = some (aI G 36 (nF (fun _ => 0))) := by rw [eM_86, va_up_ne _ _ (by decide)]; exact hm_80
  have hm_90 : M_83 6 = some (aI G 36 (nF (fun _ => 0))) := by rw [eM_86, va_up_ne _ _ (by decide)]; exact hm_81
  have hm_91 : M_83 7 = some (aZ G 6 (bF (fun _ => false))) := by rw [eM_86, va_up_ne _ _ (by decide)]; exact hm_77
  have hF_92 : ∀ j : Nat, j ≠ 4 → j ≠ 3 → j ≠ 5 → j ≠ 6 → j ≠ 7 → M_83 j = M j := fun j q0 q1 q2 q3 q4 => by rw [eM_86, va_up_ne _ _ q1]; exact hF_82 j q0 q1 q2 q3 q4
  clear hm_78 hm_79 hm_80 hm_81 hm_77 hF_82
  refine lv_iconst (v := nI 0) hx hb dX1_init_36 (by decide) ?_
  refine lv_istore_n (lv' := [(1, .int (nI 0)), (0, .ref (ad 3))]) hx hb dX1_init_37 rfl hl (by decide) rfl (fun ls hl => ?_)
  have lp38_93 : ∀ (fuel : Nat) (i : Nat) (g : Nat → Nat) (Mx : Mem) (Hx : Heap) (locsx : List Loc) (ls : Array Slot), (36 - i) < fuel → (i ≤ 36) → (∀ j, j < i → g j = 6) → Iv G z ad_70 Mx s Hx locsx → Mx 3 = some (cLaws ad_70 ) → Mx 4 = some (aI G 36 (nF (fun _ => 0))) → Mx 6 = some (aI G 36 (nF (fun _ => 0))) → Mx 5 = some (aI G 36 (nF g)) → Mx 7 = some (aZ G 6 (bF (fun _ => false))) → (∀ j : Nat, j ≠ 3 → j ≠ 4 → j ≠ 6 → j ≠ 5 → j ≠ 7 → Mx j = M j) → lv_has ls 2 [(0, .ref (ad 3)), (1, .int (nI i))] → W p l e (headSpec wsX1_init rm_c_X1_init).room s m ([.ref (ad 3)] : List Value).toArray below meth c Hx locsx 4 114 Q (F0 m 38 ls []) := by
    intro fuel
    induction fuel with
    | zero => intro i g Mx Hx locsx ls hfu hi hg hI hm_94 hm_95 hm_96 hm_97 hm_98 hF_100 hl; exact absurd hfu (Nat.not_lt_zero _)
    | succ fuel ih_101 =>
      intro i g Mx Hx locsx ls hfu hi hg hI hm_94 hm_95 hm_96 hm_97 hm_98 hF_100 hl
      refine lv_iload_n hx hb dX1_init_38 rfl (lv_at hl 1 rfl) ?_
      refine lv_aload_n hx hb dX1_init_39 rfl (lv_at hl 0 rfl) ?_
      refine n_eqv (show Value.ref (ad 3) = .ref (ad_70 3) from by rw [hAd_76 3 (by decide), hAd_53 3 (by decide), hAd_30 3 (by decide), hAd_7 3 (by decide)]) ?_
      refine h_get (C := RX1) (T := TX1) (N := 4) hx hb hts i_RX1 hown hI hm_94 rfl 1 (by decide) f_15 rfl rfl dX1_init_40 ?_
      refine h_alen hx hb hI hm_97 dX1_init_43 ?_
      refine lv_icmp_ge (tgt := 61) hx hb dX1_init_44 (by decide) (fun c_102 => ?_) (fun c_102 => ?_)
      · -- 44: nI i ge
        have c_102 : 36 ≤ i := (nI_leI (a := 36) (b := i) (by omega) (by omega)).mp (c_102)
        refine lv_iconst (v := nI 0) hx hb dX1_init_61 (by decide) ?_
        refine lv_istore_n (lv' := [(1, .int (nI 0)), (0, .ref (ad 3))]) hx hb dX1_init_62 rfl hl (by decide) rfl (fun ls hl => ?_)
        have lp63_103 : ∀ (fuel : Nat) (i2 : Nat) (h : Nat → Bool) (Mx : Mem) (Hx : Heap) (locsx : List Loc) (ls : Array Slot), (6 - i2) < fuel → (i2 ≤ 6) → (∀ j, j < i2 → h j = true) → Iv G z ad_70 Mx s Hx locsx → Mx 3 = some (cLaws ad_70 ) → Mx 4 = some (aI G 36 (nF (fun _ => 0))) → Mx 6 = some (aI G 36 (nF (fun _ => 0))) → Mx 5 = some (aI G 36 (nF g)) → Mx 7 = some (aZ G 6 (bF h)) → (∀ j : Nat, j ≠ 3 → j ≠ 4 → j ≠ 6 → j ≠ 5 → j ≠ 7 → Mx j = M j) → lv_has ls 2 [(0, .ref (ad 3)), (1, .int (nI i2))] → W p l e (headSpec wsX1_init rm_c_X1_init).room s m ([.ref (ad 3)] : List Value).toArray below meth c Hx locsx 4 114 Q (F0 m 63 ls []) := by
          intro fuel
          induction fuel with
          | zero => intro i2 h Mx Hx locsx ls hfu hi2 hh hI hm_104 hm_105 hm_106 hm_107 hm_108 hF_110 hl; exact absurd hfu (Nat.not_lt_zero _)
          | succ fuel ih_111 =>
            intro i2 h Mx Hx locsx ls hfu hi2 hh hI hm_104 hm_105 hm_106 hm_107 hm_108 hF_110 hl
            refine lv_iload_n hx hb dX1_init_63 rfl (lv_at hl 1 rfl) ?_
            refine lv_bipush (v := nI 6) hx hb dX1_init_64 (by decide) ?_
            refine lv_icmp_ge (tgt := 82) hx hb dX1_init_66 (by decide) (fun c_112 => ?_) (fun c_112 => ?_)
            · -- 66: nI i2 ge
              have c_112 : 6 ≤ i2 := (nI_leI (a := 6) (b := i2) (by omega) (by omega)).mp (c_112)
              subst hQ
              exact e_Av hx hb hr hlocks hI ⟨g, h, hm_104, hm_105, hm_107, hm_106, hm_108, (fun j q0 q1 q2 q3 q4 => hF_110 j q0 q1 q3 q2 q4), (fun j q0 q1 q2 q3 => (by show ad_70 j = ad j; rw [hAd_76 j q3, hAd_53 j q2, hAd_30 j q1, hAd_7 j q0])), ⟨(fun j hj => hg j (by omega)), (fun j hj => hh j (by omega))⟩⟩ dX1_init_82
            · -- 66: nI i2 lt
              have c_112 : i2 < 6 := by have h := mt (nI_leI (a := 6) (b := i2) (by omega) (by omega)).mpr c_112; omega
              refine lv_aload_n hx hb dX1_init_69 rfl (lv_at hl 0 rfl) ?_
              refine n_eqv (show Value.ref (ad 3) = .ref (ad_70 3) from by rw [hAd_76 3 (by decide), hAd_53 3 (by decide), hAd_30 3 (by decide), hAd_7 3 (by decide)]) ?_
              refine h_get (C := RX1) (T := TX1) (N := 4) hx hb hts i_RX1 hown hI hm_104 rfl 3 (by decide) f_21 rfl rfl dX1_init_70 ?_
              refine lv_iload_n hx hb dX1_init_73 rfl (lv_at hl 1 rfl) ?_
              refine lv_iconst (v := nI 1) hx hb dX1_init_74 (by decide) ?_
              refine h_zast (i := i2) (x := nI 1) hx hb hI hm_108 (by omega) (by decide) rfl dX1_init_75 (fun M_113 H_114 locs_115 eM_116 hI => ?_)
              rw [upd_bF_1] at eM_116
              have hm_117 : M_113 3 = some (cLaws ad_70 ) := by rw [eM_116, va_up_ne _ _ (by decide)]; exact hm_104
              have hm_118 : M_113 4 = some (aI G 36 (nF (fun _ => 0))) := by rw [eM_116, va_up_ne _ _ (by decide)]; exact hm_105
              have hm_119 : M_113 6 = some (aI G 36 (nF (fun _ => 0))) := by rw [eM_116, va_up_ne _ _ (by decide)]; exact hm_106
              have hm_120 : M_113 5 = some (aI G 36 (nF g)) := by rw [eM_116, va_up_ne _ _ (by decide)]; exact hm_107
              have hm_121 : M_113 7 = some (aZ G 6 (bF (va_up h i2 true))) := by rw [eM_116]; exact va_up_self _ _ _
              have hF_122 : ∀ j : Nat, j ≠ 3 → j ≠ 4 → j ≠ 6 → j ≠ 5 → j ≠ 7 → M_113 j = M j := fun j q0 q1 q2 q3 q4 => by rw [eM_116, va_up_ne _ _ q4]; exact hF_110 j q0 q1 q2 q3 q4
              clear hm_104 hm_105 hm_106 hm_107 hm_108 hF_110
              refine lv_iinc (v := nI (i2 + 1)) (lv' := [(1, .int (nI (i2 + 1))), (0, .ref (ad 3))]) hx hb dX1_init_76 hl (k := 1) rfl (nI_add i2 1) (by decide) rfl (fun ls hl => ?_)
              refine lv_goto (tgt := 63) hx hb dX1_init_79 (by decide) ?_
              exact ih_111 (i2 + 1) (va_up h i2 true) M_113 H_114 locs_115 ls (by omega) (by omega) (lt_s2 (fun j hj => (va_up_ne _ _ (by omega)).trans (hh j hj)) (va_up_self _ _ _)) hI hm_117 hm_118 hm_119 hm_120 hm_121 (fun j q0 q1 q2 q3 q4 => hF_122 j q0 q1 q2 q3 q4) (lv_sub hl [1, 0] rfl)
        exact lp63_103 ((6 - 0) + 1) 0 (fun _ => false) Mx Hx locsx ls (Nat.lt_succ_self _) (by omega) (fun j hj => absurd hj (Nat.not_lt_zero j)) hI hm_94 hm_95 hm_96 hm_97 hm_98 (fun j q0 q1 q2 q3 q4 => hF_100 j q0 q1 q2 q3 q4) (lv_sub hl [1, 0] rfl)
      · -- 44: nI i lt
        have c_102 : i < 36 := by have h := mt (nI_leI (a := 36) (b := i) (by omega) (by omega)).mpr c_102; omega
        refine lv_aload_n hx hb dX1_init_47 rfl (lv_at hl 0 rfl) ?_
        refine n_eqv (show Value.ref (ad 3) = .ref (ad_70 3) from by rw [hAd_76 3 (by decide), hAd_53 3 (by decide), hAd_30 3 (by decide), hAd_7 3 (by decide)]) ?_
        refine h_get (C := RX1) (T := TX1) (N := 4) hx hb hts i_RX1 hown hI hm_94 rfl 1 (by decide) f_15 rfl rfl dX1_init_48 ?_
        refine lv_iload_n hx hb dX1_init_51 rfl (lv_at hl 1 rfl) ?_
        refine lv_bipush (v := nI 6) hx hb dX1_init_52 (by decide) ?_
        refine h_iast (i := i) (x := nI 6) hx hb hI hm_97 (by omega) (by decide) dX1_init_54 (fun M_123 H_124 locs_125 eM_126 hI => ?_)
        rw [upd_nF] at eM_126
        have hm_127 : M_123 3 = some (cLaws ad_70 ) := by rw [eM_126, va_up_ne _ _ (by decide)]; exact hm_94
        have hm_128 : M_123 4 = some (aI G 36 (nF (fun _ => 0))) := by rw [eM_126, va_up_ne _ _ (by decide)]; exact hm_95
        have hm_129 : M_123 6 = some (aI G 36 (nF (fun _ => 0))) := by rw [eM_126, va_up_ne _ _ (by decide)]; exact hm_96
        have hm_130 : M_123 5 = some (aI G 36 (nF (va_up g i 6))) := by rw [eM_126]; exact va_up_self _ _ _
        have hm_131 : M_123 7 = some (aZ G 6 (bF (fun _ => false))) := by rw [eM_126, va_up_ne _ _ (by decide)]; exact hm_98
        have hF_132 : ∀ j : Nat, j ≠ 3 → j ≠ 4 → j ≠ 6 → j ≠ 5 → j ≠ 7 → M_123 j = M j := fun j q0 q1 q2 q3 q4 => by rw [eM_126, va_up_ne _ _ q3]; exact hF_100 j q0 q1 q2 q3 q4
        clear hm_94 hm_95 hm_96 hm_97 hm_98 hF_100
        refine lv_iinc (v := nI (i + 1)) (lv' := [(1, .int (nI (i + 1))), (0, .ref (ad 3))]) hx hb dX1_init_55 hl (k := 1) rfl (nI_add i 1) (by decide) rfl (fun ls hl => ?_)
        refine lv_goto (tgt := 38) hx hb dX1_init_58 (by decide) ?_
        exact ih_101 (i + 1) (va_up g i 6) M_123 H_124 locs_125 ls (by omega) (by omega) (lt_s2 (fun j hj => (va_up_ne _ _ (by omega)).trans (hg j hj)) (va_up_self _ _ _)) hI hm_127 hm_128 hm_129 hm_130 hm_131 (fun j q0 q1 q2 q3 q4 => hF_132 j q0 q1 q2 q3 q4) (lv_sub hl [1, 0] rfl)
  exact lp38_93 ((36 - 0) + 1) 0 (fun _ => 0) M_83 H_84 locs_85 ls (Nat.lt_succ_self _) (by omega) (fun j hj => absurd hj (Nat.not_lt_zero j)) hI hm_87 hm_88 hm_90 hm_89 hm_91 (fun j q0 q1 q2 q3 q4 => hF_92 j q1 q0 q3 q2 q4) (lv_sub hl [1, 0] rfl)

/-- X5_init -/
abbrev rm_c_X5_init : Room := { frames := 1, cells := 3, slots := 120, locals := 20 }
set_option maxHeartbeats 4000000 in
set_option maxRecDepth 100000 in
theorem c_X5_init (l : Launch) (G : GG) (z : Nat) (ad : Nat → Nat) (M : Mem)  (h8 : M 8 = some (.inr (6, [.null, .null, .null, .int (nI 0)]))) (fre0 : M 9 = none) (fre1 : M 10 = none) (fre2 : M 11 = none) : Met l yX5_init wsX5_init rm_c_X5_init (Pr G z ad M [.ref (ad 8)]) (Av G z (fun (u : (Nat → Nat) × Mem) => ∃ hg : Nat → Nat, ∃ lst : Nat → Nat, u.2 8 = some (cOnes u.1 0) ∧ u.2 9 = some (aI G 40 (nF hg)) ∧ u.2 10 = some (aI G 40 (nF lst)) ∧ u.2 11 = some (aI G 40 (nF (fun _ => 0))) ∧ (∀ j : Nat, j ≠ 8 → j ≠ 9 → j ≠ 10 → j ≠ 11 → u.2 j = M j) ∧ (∀ j : Nat, j ≠ 9 → j ≠ 10 → j ≠ 11 → u.1 j = ad j) ∧ (∀ t, t < 40 → hg t = t ∧ lst t = t))) 3 120 (fr z) := by
  refine Met.ofW (cc := cX5_init) (maxL := 2) (ret := none) (by decide) rfl ?_
  intro p e s m args below meth c s₁ B hml hv
  obtain ⟨rfl, hv⟩ := hv
  have hI := Iv.entry hv
  have hx := B.exec
  have hb := B.bytes
  have hr := B.returns
  have hts := atoms_spec (ws := wsX5_init) B.pre
  have hown : s.vm.findClass RX5 = some m.cls := findClass_of_methodNamed B.named
  have hlocks := B.notSynchronized
  have hini : meth.name = "<init>" := (name_of_methodNamed B.named B.method).1
  have m_3 := hts _ (List.mem_cons_of_mem _ (lwg_of t_80 rfl))
  have n_oi := hts _ (List.mem_cons_of_mem _ (lwg_of t_39 rfl))
  have n_oc := hts _ (List.mem_cons_of_mem _ (lwg_of t_40 rfl))
  have na_int := hts _ (List.mem_cons_of_mem _ (lwg_of t_54 rfl))
  have f_9 := hts _ (List.mem_cons_of_mem _ (lwg_of t_81 rfl))
  have i_RX5 : ∀ w ∈ u_ws RX5 TX5 4, w ∈ wsX5_init := fun w h => List.mem_cons_of_mem _ (iu_X5 w h)
  have f_15 := hts _ (List.mem_cons_of_mem _ (lwg_of t_82 rfl))
  have f_18 := hts _ (List.mem_cons_of_mem _ (lwg_of t_83 rfl))
  have hl := lv_entry ([.ref (ad 8)]) (n := 2) (Nat.le_of_ble_eq_true rfl)
  rw [lg_entry_eq]
  generalize (lg_sl ([.ref (ad 8)]) ++ List.replicate (2 - (lg_sl ([.ref (ad 8)])).length) Slot.unset).toArray = ls at hl ⊢
  have hl : lv_has ls 2 [(0, .ref (ad 8))] := hl
  refine w_q (fun Q hQ => ?_)
  refine lv_aload_n hx hb dX5_init_0 rfl (lv_at hl 0 rfl) ?_
  refine W.objInit hx hb hown m_3 n_oi n_oc rfl (by rw [hml]; exact hl.1) rfl dX5_init_1 (Nat.le_of_ble_eq_true rfl) (Nat.le_of_ble_eq_true rfl) ?_
  refine W.eq (g2 := F0 m 4 ls []) rfl ?_
  refine lv_aload_n hx hb dX5_init_4 rfl (lv_at hl 0 rfl) ?_
  refine lv_bipush (v := nI 40) hx hb dX5_init_5 (by decide) ?_
  refine h_newa (atype := .int) (n := 40) (a0 := (40, .inl (nF (fun _ => 0)))) hx hb na_int 0 (ty := .int) rfl rfl (fun C h => by cases h) hI (ha_int 40) (by decide) (by decide) (Nat.le_of_ble_eq_true rfl) (Nat.le_of_ble_eq_true rfl) dX5_init_7 9 fre0 (fun ad_1 M_2 H_3 hA_4 eM_5 hI => ?_)
  have hAd_7 : ∀ j : Nat, j ≠ 9 → ad_1 j = ad j := fun j hj => by obtain ⟨q, e⟩ := hA_4; rw [e]; exact va_up_ne _ _ hj
  have hm_8 : M_2 9 = some (aI G 40 (nF (fun _ => 0))) := by rw [eM_5]; exact va_up_self _ _ _
  have hm_9 : M_2 8 = some (.inr (6, [.null, .null, .null, .int (nI 0)])) := by rw [eM_5, va_up_ne _ _ (by decide), h8]
  have fr_10 : M_2 10 = none := by rw [eM_5, va_up_ne _ _ (by decide)]; exact fre1
  have fr_11 : M_2 11 = none := by rw [eM_5, va_up_ne _ _ (by decide)]; exact fre2
  have hF_12 : ∀ j : Nat, j ≠ 9 → M_2 j = M j := fun j q0 => by rw [eM_5, va_up_ne _ _ q0]
  refine n_eqs (show ([.ref (ad_1 9), .ref (ad 8)] : List Value) = [.ref (ad_1 9), .ref (ad_1 8)] from by rw [hAd_7 8 (by decide)]) ?_
  refine h_putF (C := RX5) (T := TX5) (N := 4) hx hb hts i_RX5 tyX5 tyX5_ok nmX5 hown hI hm_9 rfl 0 (by decide) f_9 rfl rfl hini rfl rfl rfl (Nat.le_of_ble_eq_true rfl) dX5_init_9 (fun M_13 H_14 locs_15 eM_16 hI => ?_)
  have hm_17 : M_13 8 = some (.inr (6, [.ref (ad_1 9), .null, .null, .int (nI 0)])) := by rw [eM_16]; exact va_up_self _ _ _
  have hm_18 : M_13 9 = some (aI G 40 (nF (fun _ => 0))) := by rw [eM_16, va_up_ne _ _ (by decide)]; exact hm_8
  have fr_19 : M_13 10 = none := by rw [eM_16, va_up_ne _ _ (by decide)]; exact fr_10
  have fr_20 : M_13 11 = none := by rw [eM_16, va_up_ne _ _ (by decide)]; exact fr_11
  have hF_21 : ∀ j : Nat, j ≠ 9 → j ≠ 8 → M_13 j = M j := fun j q0 q1 => by rw [eM_16, va_up_ne _ _ q1]; exact hF_12 j q0
  clear hm_9 hm_8 fr_10 fr_11 hF_12
  refine lv_aload_n hx hb dX5_init_12 rfl (lv_at hl 0 rfl) ?_
  refine n_eqv (show Value.ref (ad 8) = .ref (ad_1 8) from by rw [hAd_7 8 (by decide)]) ?_
  refine lv_bipush (v := nI 40) hx hb dX5_init_13 (by decide) ?_
  refine h_newa (atype := .int) (n := 40) (a0 := (40, .inl (nF (fun _ => 0)))) hx hb na_int 0 (ty := .int) rfl rfl (fun C h => by cases h) hI (ha_int 40) (by decide) (by decide) (Nat.le_of_ble_eq_true rfl) (Nat.le_of_ble_eq_true rfl) dX5_init_15 10 fr_19 (fun ad_22 M_23 H_24 hA_25 eM_26 hI => ?_)
  have hAd_28 : ∀ j : Nat, j ≠ 10 → ad_22 j = ad_1 j := fun j hj => by obtain ⟨q, e⟩ := hA_25; rw [e]; exact va_up_ne _ _ hj
  have hm_29 : M_23 10 = some (aI G 40 (nF (fun _ => 0))) := by rw [eM_26]; exact va_up_self _ _ _
  have hm_30 : M_23 8 = some (.inr (6, [.ref (ad_22 9), .null, .null, .int (nI 0)])) := by rw [eM_26, va_up_ne _ _ (by decide), hm_17]; rw [hAd_28 9 (by decide)]
  have hm_31 : M_23 9 = some (aI G 40 (nF (fun _ => 0))) := by rw [eM_26, va_up_ne _ _ (by decide), hm_18]
  have fr_32 : M_23 11 = none := by rw [eM_26, va_up_ne _ _ (by decide)]; exact fr_20
  clear hm_17 hm_18 fr_20
  have hF_33 : ∀ j : Nat, j ≠ 9 → j ≠ 8 → j ≠ 10 → M_23 j = M j := fun j q0 q1 q2 => by rw [eM_26, va_up_ne _ _ q2]; exact hF_21 j q0 q1
  clear hF_21
  refine n_eqs (show ([.ref (ad_22 10), .ref (ad_1 8)] : List Value) = [.ref (ad_22 10), .ref (ad_22 8)] from by rw [hAd_28 8 (by decide)]) ?_
  refine h_putF (C := RX5) (T := TX5) (N := 4) hx hb hts i_RX5 tyX5 tyX5_ok nmX5 hown hI hm_30 rfl 1 (by decide) f_15 rfl rfl hini rfl rfl rfl (Nat.le_of_ble_eq_true rfl) dX5_init_17 (fun M_34 H_35 locs_36 eM_37 hI => ?_)
  have hm_38 : M_34 8 = some (.inr (6, [.ref (ad_22 9), .ref (ad_22 10), .null, .int (nI 0)])) := by rw [eM_37]; exact va_up_self _ _ _
  have hm_39 : M_34 9 = some (aI G 40 (nF (fun _ => 0))) := by rw [eM_37, va_up_ne _ _ (by decide)]; exact hm_31
  have hm_40 : M_34 10 = some (aI G 40 (nF (fun _ => 0))) := by rw [eM_37, va_up_ne _ _ (by decide)]; exact hm_29
  have fr_41 : M_34 11 = none := by rw [eM_37, va_up_ne _ _ (by decide)]; exact fr_32
  have hF_42 : ∀ j : Nat, j ≠ 9 → j ≠ 8 → j ≠ 10 → M_34 j = M j := fun j q0 q1 q2 => by rw [eM_37, va_up_ne _ _ q1]; exact hF_33 j q0 q1 q2
  clear hm_30 hm_31 hm_29 fr_32 hF_33
  refine lv_aload_n hx hb dX5_init_20 rfl (lv_at hl 0 rfl) ?_
  refine n_eqv (show Value.ref (ad 8) = .ref (ad_22 8) from by rw [hAd_28 8 (by decide), hAd_7 8 (by decide)]) ?_
  refine lv_bipush (v := nI 40) hx hb dX5_init_21 (by decide) ?_
  refine h_newa (atype := .int) (n := 40) (a0 := (40, .inl (nF (fun _ => 0)))) hx hb na_int 0 (ty := .int) rfl rfl (fun C h => by cases h) hI (ha_int 40) (by decide) (by decide) (Nat.le_of_ble_eq_true rfl) (Nat.le_of_ble_eq_true rfl) dX5_init_23 11 fr_41 (fun ad_43 M_44 H_45 hA_46 eM_47 hI => ?_)
  have hAd_49 : ∀ j : Nat, j ≠ 11 → ad_43 j = ad_22 j := fun j hj => by obtain ⟨q, e⟩ := hA_46; rw [e]; exact va_up_ne _ _ hj
  have hm_50 : M_44 11 = some (aI G 40 (nF (fun _ => 0))) := by rw [eM_47]; exact va_up_self _ _ _
  have hm_51 : M_44 8 = some (.inr (6, [.ref (ad_43 9), .ref (ad_43 10), .null, .int (nI 0)])) := by rw [eM_47, va_up_ne _ _ (by decide), hm_38]; rw [hAd_49 9 (by decide), hAd_49 10 (by decide)]
  have hm_52 : M_44 9 = some (aI G 40 (nF (fun _ => 0))) := by rw [eM_47, va_up_ne _ _ (by decide), hm_39]
  have hm_53 : M_44 10 = some (aI G 40 (nF (fun _ => 0))) := by rw [eM_47, va_up_ne _ _ (by decide), hm_40]
  clear hm_38 hm_39 hm_40
  have hF_54 : ∀ j : Nat, j ≠ 9 → j ≠ 8 → j ≠ 10 → j ≠ 11 → M_44 j = M j := fun j q0 q1 q2 q3 => by rw [eM_47, va_up_ne _ _ q3]; exact hF_42 j q0 q1 q2
  clear hF_42
  refine n_eqs (show ([.ref (ad_43 11), .ref (ad_22 8)] : List Value) = [.ref (ad_43 11), .ref (ad_43 8)] from by rw [hAd_49 8 (by decide)]) ?_
  refine h_putF (C := RX5) (T := TX5) (N := 4) hx hb hts i_RX5 tyX5 tyX5_ok nmX5 hown hI hm_51 rfl 2 (by decide) f_18 rfl rfl hini rfl rfl rfl (Nat.le_of_ble_eq_true rfl) dX5_init_25 (fun M_55 H_56 locs_57 eM_58 hI => ?_)
  have hm_59 : M_55 8 = some (.inr (6, [.ref (ad_43 9), .ref (ad_43 10), .ref (ad_43 11), .int (nI 0)])) := by rw [eM_58]; exact va_up_self _ _ _
  have hm_60 : M_55 9 = some (aI G 40 (nF (fun _ => 0))) := by rw [eM_58, va_up_ne _ _ (by decide)]; exact hm_52
  have hm_61 : M_55 10 = some (aI G 40 (nF (fun _ => 0))) := by rw [eM_58, va_up_ne _ _ (by decide)]; exact hm_53
  have hm_62 : M_55 11 = some (aI G 40 (nF (fun _ => 0))) := by rw [eM_58, va_up_ne _ _ (by decide)]; exact hm_50
  have hF_63 : ∀ j : Nat, j ≠ 9 → j ≠ 8 → j ≠ 10 → j ≠ 11 → M_55 j = M j := fun j q0 q1 q2 q3 => by rw [eM_58, va_up_ne _ _ q1]; exact hF_54 j q0 q1 q2 q3
  clear hm_51 hm_52 hm_53 hm_50 hF_54
  refine lv_iconst (v := nI 0) hx hb dX5_init_28 (by decide) ?_
  refine lv_istore_n (lv' := [(1, .int (nI 0)), (0, .ref (ad 8))]) hx hb dX5_init_29 rfl hl (by decide) rfl (fun ls hl => ?_)
  have lp30_64 : ∀ (fuel : Nat) (i : Nat) (g : Nat → Nat) (h : Nat → Nat) (Mx : Mem) (Hx : Heap) (locsx : List Loc) (ls : Array Slot), (40 - i) < fuel → (i ≤ 40) → (∀ t, t < i → g t = t ∧ h t = t) → Iv G z ad_43 Mx s Hx locsx → Mx 8 = some (cOnes ad_43 0) → Mx 9 = some (aI G 40 (nF g)) → Mx 10 = some (aI G 40 (nF h)) → Mx 11 = some (aI G 40 (nF (fun _ => 0))) → (∀ j : Nat, j ≠ 8 → j ≠ 9 → j ≠ 10 → j ≠ 11 → Mx j = M j) → lv_has ls 2 [(0, .ref (ad 8)), (1, .int (nI i))] → W p l e (headSpec wsX5_init rm_c_X5_init).room s m ([.ref (ad 8)] : List Value).toArray below meth c Hx locsx 3 120 Q (F0 m 30 ls []) := by
    intro fuel
    induction fuel with
    | zero => intro i g h Mx Hx locsx ls hfu hi hgh hI hm_65 hm_66 hm_67 hm_68 hF_70 hl; exact absurd hfu (Nat.not_lt_zero _)
    | succ fuel ih_71 =>
      intro i g h Mx Hx locsx ls hfu hi hgh hI hm_65 hm_66 hm_67 hm_68 hF_70 hl
      refine lv_iload_n hx hb dX5_init_30 rfl (lv_at hl 1 rfl) ?_
      refine lv_bipush (v := nI 40) hx hb dX5_init_31 (by decide) ?_
      refine lv_icmp_ge (tgt := 56) hx hb dX5_init_33 (by decide) (fun c_72 => ?_) (fun c_72 => ?_)
      · -- 33: nI i ge
        have c_72 : 40 ≤ i := (nI_leI (a := 40) (b := i) (by omega) (by omega)).mp (c_72)
        subst hQ
        exact e_Av hx hb hr hlocks hI ⟨g, h, hm_65, hm_66, hm_67, hm_68, (fun j q0 q1 q2 q3 => hF_70 j q0 q1 q2 q3), (fun j q0 q1 q2 => (by show ad_43 j = ad j; rw [hAd_49 j q2, hAd_28 j q1, hAd_7 j q0])), (fun t ht => hgh t (by omega))⟩ dX5_init_56
      · -- 33: nI i lt
        have c_72 : i < 40 := by have h := mt (nI_leI (a := 40) (b := i) (by omega) (by omega)).mpr c_72; omega
        refine lv_aload_n hx hb dX5_init_36 rfl (lv_at hl 0 rfl) ?_
        refine n_eqv (show Value.ref (ad 8) = .ref (ad_43 8) from by rw [hAd_49 8 (by decide), hAd_28 8 (by decide), hAd_7 8 (by decide)]) ?_
        refine h_get (C := RX5) (T := TX5) (N := 4) hx hb hts i_RX5 hown hI hm_65 rfl 0 (by decide) f_9 rfl rfl dX5_init_37 ?_
        refine lv_iload_n hx hb dX5_init_40 rfl (lv_at hl 1 rfl) ?_
        refine lv_iload_n hx hb dX5_init_41 rfl (lv_at hl 1 rfl) ?_
        refine h_iast (i := i) (x := nI i) hx hb hI hm_66 (by omega) (by decide) dX5_init_42 (fun M_73 H_74 locs_75 eM_76 hI => ?_)
        rw [upd_nF] at eM_76
        have hm_77 : M_73 8 = some (cOnes ad_43 0) := by rw [eM_76, va_up_ne _ _ (by decide)]; exact hm_65
        have hm_78 : M_73 9 = some (aI G 40 (nF (va_up g i i))) := by rw [eM_76]; exact va_up_self _ _ _
        have hm_79 : M_73 10 = some (aI G 40 (nF h)) := by rw [eM_76, va_up_ne _ _ (by decide)]; exact hm_67
        have hm_80 : M_73 11 = some (aI G 40 (nF (fun _ => 0))) := by rw [eM_76, va_up_ne _ _ (by decide)]; exact hm_68
        have hF_81 : ∀ j : Nat, j ≠ 8 → j ≠ 9 → j ≠ 10 → j ≠ 11 → M_73 j = M j := fun j q0 q1 q2 q3 => by rw [eM_76, va_up_ne _ _ q1]; exact hF_70 j q0 q1 q2 q3
        clear hm_65 hm_66 hm_67 hm_68 hF_70
        refine lv_aload_n hx hb dX5_init_43 rfl (lv_at hl 0 rfl) ?_
        refine n_eqv (show Value.ref (ad 8) = .ref (ad_43 8) from by rw [hAd_49 8 (by decide), hAd_28 8 (by decide), hAd_7 8 (by decide)]) ?_
        refine h_get (C := RX5) (T := TX5) (N := 4) hx hb hts i_RX5 hown hI hm_77 rfl 1 (by decide) f_15 rfl rfl dX5_init_44 ?_
        refine lv_iload_n hx hb dX5_init_47 rfl (lv_at hl 1 rfl) ?_
        refine lv_iload_n hx hb dX5_init_48 rfl (lv_at hl 1 rfl) ?_
        refine h_iast (i := i) (x := nI i) hx hb hI hm_79 (by omega) (by decide) dX5_init_49 (fun M_82 H_83 locs_84 eM_85 hI => ?_)
        rw [upd_nF] at eM_85
        have hm_86 : M_82 8 = some (cOnes ad_43 0) := by rw [eM_85, va_up_ne _ _ (by decide)]; exact hm_77
        have hm_87 : M_82 9 = some (aI G 40 (nF (va_up g i i))) := by rw [eM_85, va_up_ne _ _ (by decide)]; exact hm_78
        have hm_88 : M_82 10 = some (aI G 40 (nF (va_up h i i))) := by rw [eM_85]; exact va_up_self _ _ _
        have hm_89 : M_82 11 = some (aI G 40 (nF (fun _ => 0))) := by rw [eM_85, va_up_ne _ _ (by decide)]; exact hm_80
        have hF_90 : ∀ j : Nat, j ≠ 8 → j ≠ 9 → j ≠ 10 → j ≠ 11 → M_82 j = M j := fun j q0 q1 q2 q3 => by rw [eM_85, va_up_ne _ _ q2]; exact hF_81 j q0 q1 q2 q3
        clear hm_77 hm_78 hm_79 hm_80 hF_81
        refine lv_iinc (v := nI (i + 1)) (lv' := [(1, .int (nI (i + 1))), (0, .ref (ad 8))]) hx hb dX5_init_50 hl (k := 1) rfl (nI_add i 1) (by decide) rfl (fun ls hl => ?_)
        refine lv_goto (tgt := 30) hx hb dX5_init_53 (by decide) ?_
        exact ih_71 (i + 1) (va_up g i i) (va_up h i i) M_82 H_83 locs_84 ls (by omega) (by omega) (lt_s2 (fun j hj => ⟨(va_up_ne _ _ (by omega)).trans (hgh j hj).1, (va_up_ne _ _ (by omega)).trans (hgh j hj).2⟩) ⟨va_up_self _ _ _, va_up_self _ _ _⟩) hI hm_86 hm_87 hm_88 hm_89 (fun j q0 q1 q2 q3 => hF_90 j q0 q1 q2 q3) (lv_sub hl [1, 0] rfl)
  exact lp30_64 ((40 - 0) + 1) 0 (fun _ => 0) (fun _ => 0) M_55 H_56 locs_57 ls (Nat.lt_succ_self _) (by omega) (fun j hj => absurd hj (Nat.not_lt_zero j)) hI hm_59 hm_60 hm_61 hm_62 (fun j q0 q1 q2 q3 => hF_63 j q1 q0 q2 q3) (lv_sub hl [1, 0] rfl)

/-- X4_init -/
abbrev rm_c_X4_init : Room := { frames := 2, cells := 12, slots := 2492, locals := 40 }
set_option maxHeartbeats 4000000 in
set_option maxRecDepth 100000 in
theorem c_X4_init (l : Launch) (G : GG) (z : Nat) (ad : Nat → Nat) (M : Mem)  (h23 : M 23 = some (.inr (5, [.null, .null, .null, .null, .null, .null, .int (nI 0)]))) (fre0 : M 24 = none) (fre1 : M 25 = none) (fre2 : M 26 = none) (fre3 : M 27 = none) (fre4 : M 28 = none) (fre5 : M 44 = none) (fre6 : M 45 = none) (fre7 : M 46 = none) (fre8 : M 47 = none) (fre9 : M 48 = none) (fre10 : M 49 = none) (fre11 : M 50 = none) : Met l yX4_init wsX4_init rm_c_X4_init (Pr G z ad M [.ref (ad 23)]) (Av G z (fun (u : (Nat → Nat) × Mem) => u.2 23 = some (cMatcher u.1 44 0) ∧ u.2 24 = some (aJ G 2160 (fun _ => 0)) ∧ u.2 25 = some (aI G 6 (nF (fun _ => 0))) ∧ u.2 26 = some (aJ G 240 (fun _ => 0)) ∧ u.2 27 = some (aJ G 3 (fun _ => 0)) ∧ u.2 28 = some (aI G 3 (nF (fun _ => 0))) ∧ u.2 44 = some (cQuestion u.1 44 0 0) ∧ u.2 45 = some (aI G 6 (nF (fun _ => 0))) ∧ u.2 46 = some (aZ G 6 (bF (fun _ => false))) ∧ u.2 47 = some (aI G 6 (nF (fun _ => 0))) ∧ u.2 48 = some (aI G 6 (nF (fun _ => 0))) ∧ u.2 49 = some (aI G 24 (nF (fun _ => 0))) ∧ u.2 50 = some (aI G 24 (nF (fun _ => 0))) ∧ (∀ j : Nat, j ≠ 23 → j ≠ 24 → j ≠ 25 → j ≠ 26 → j ≠ 27 → j ≠ 28 → j ≠ 44 → j ≠ 45 → j ≠ 46 → j ≠ 47 → j ≠ 48 → j ≠ 49 → j ≠ 50 → u.2 j = M j) ∧ (∀ j : Nat, j ≠ 24 → j ≠ 25 → j ≠ 26 → j ≠ 27 → j ≠ 28 → j ≠ 44 → j ≠ 45 → j ≠ 46 → j ≠ 47 → j ≠ 48 → j ≠ 49 → j ≠ 50 → u.1 j = ad j))) 12 2492 (fr z) := by
  refine Met.ofW (cc := cX4_init) (maxL := 1) (ret := none) (by decide) rfl ?_
  intro p e s m args below meth c s₁ B hml hv
  obtain ⟨rfl, hv⟩ := hv
  have hI := Iv.entry hv
  have hx := B.exec
  have hb := B.bytes
  have hr := B.returns
  have hts := atoms_spec (ws := wsX4_init) B.pre
  have hown : s.vm.findClass RX4 = some m.cls := findClass_of_methodNamed B.named
  have hlocks := B.notSynchronized
  have hini : meth.name = "<init>" := (name_of_methodNamed B.named B.method).1
  have m_3 := hts _ (List.mem_cons_of_mem _ (lwg_of t_182 rfl))
  have n_oi := hts _ (List.mem_cons_of_mem _ (lwg_of t_39 rfl))
  have n_oc := hts _ (List.mem_cons_of_mem _ (lwg_of t_40 rfl))
  have na_long := hts _ (List.mem_cons_of_mem _ (lwg_of t_214 rfl))
  have f_9 := hts _ (List.mem_cons_of_mem _ (lwg_of t_215 rfl))
  have i_RX4 : ∀ w ∈ u_ws RX4 TX4 7, w ∈ wsX4_init := fun w h => List.mem_cons_of_mem _ (iu_X4 w h)
  have na_int := hts _ (List.mem_cons_of_mem _ (lwg_of t_54 rfl))
  have f_15 := hts _ (List.mem_cons_of_mem _ (lwg_of t_216 rfl))
  have f_19 := hts _ (List.mem_cons_of_mem _ (lwg_of t_217 rfl))
  have f_22 := hts _ (List.mem_cons_of_mem _ (lwg_of t_218 rfl))
  have f_25 := hts _ (List.mem_cons_of_mem _ (lwg_of t_219 rfl))
  have nw_i28 := hts _ (List.mem_cons_of_mem _ (lwg_of t_184 rfl))
  have nw_n28 := hts _ (List.mem_cons_of_mem _ (lwg_of t_12 rfl))
  have i_RX6 : ∀ w ∈ u_ws RX6 TX6 8, w ∈ wsX4_init := fun w h => List.mem_cons_of_mem _ (iu_X6 w h)
  have nw_c28 := hts _ (List.mem_cons_of_mem _ (lwg_of t_183 rfl))
  have sp_30 := hts _ (List.mem_cons_of_mem _ (lwg_of t_12 rfl))
  have in_30 := hts _ (List.mem_cons_of_mem _ (lwg_of t_186 rfl))
  have f_31 := hts _ (List.mem_cons_of_mem _ (lwg_of t_220 rfl))
  have hl := lv_entry ([.ref (ad 23)]) (n := 1) (Nat.le_of_ble_eq_true rfl)
  rw [lg_entry_eq]
  generalize (lg_sl ([.ref (ad 23)]) ++ List.replicate (1 - (lg_sl ([.ref (ad 23)])).length) Slot.unset).toArray = ls at hl ⊢
  have hl : lv_has ls 1 [(0, .ref (ad 23))] := hl
  refine lv_aload_n hx hb dX4_init_0 rfl (lv_at hl 0 rfl) ?_
  refine W.objInit hx hb hown m_3 n_oi n_oc rfl (by rw [hml]; exact hl.1) rfl dX4_init_1 (Nat.le_of_ble_eq_true rfl) (Nat.le_of_ble_eq_true rfl) ?_
  refine W.eq (g2 := F0 m 4 ls []) rfl ?_
  refine lv_aload_n hx hb dX4_init_4 rfl (lv_at hl 0 rfl) ?_
  refine lv_sipush (v := nI 2160) hx hb dX4_init_5 (by decide) ?_
  refine h_newa (atype := .long) (n := 2160) (a0 := (2160, .inr (.inl (fun _ => 0)))) hx hb na_long 2 (ty := .long) rfl rfl (fun C h => by cases h) hI (ha_long 2160) (by decide) (by decide) (Nat.le_of_ble_eq_true rfl) (Nat.le_of_ble_eq_true rfl) dX4_init_8 24 fre0 (fun ad_1 M_2 H_3 hA_4 eM_5 hI => ?_)
  have hAd_7 : ∀ j : Nat, j ≠ 24 → ad_1 j = ad j := fun j hj => by obtain ⟨q, e⟩ := hA_4; rw [e]; exact va_up_ne _ _ hj
  have hm_8 : M_2 24 = some (aJ G 2160 (fun _ => 0)) := by rw [eM_5]; exact va_up_self _ _ _
  have hm_9 : M_2 23 = some (.inr (5, [.null, .null, .null, .null, .null, .null, .int (nI 0)])) := by rw [eM_5, va_up_ne _ _ (by decide), h23]
  have fr_10 : M_2 25 = none := by rw [eM_5, va_up_ne _ _ (by decide)]; exact fre1
  have fr_11 : M_2 26 = none := by rw [eM_5, va_up_ne _ _ (by decide)]; exact fre2
  have fr_12 : M_2 27 = none := by rw [eM_5, va_up_ne _ _ (by decide)]; exact fre3
  have fr_13 : M_2 28 = none := by rw [eM_5, va_up_ne _ _ (by decide)]; exact fre4
  have fr_14 : M_2 44 = none := by rw [eM_5, va_up_ne _ _ (by decide)]; exact fre5
  have fr_15 : M_2 45 = none := by rw [eM_5, va_up_ne _ _ (by decide)]; exact fre6
  have fr_16 : M_2 46 = none := by rw [eM_5, va_up_ne _ _ (by decide)]; exact fre7
  have fr_17 : M_2 47 = none := by rw [eM_5, va_up_ne _ _ (by decide)]; exact fre8
  have fr_18 : M_2 48 = none := by rw [eM_5, va_up_ne _ _ (by decide)]; exact fre9
  have fr_19 : M_2 49 = none := by rw [eM_5, va_up_ne _ _ (by decide)]; exact fre10
  have fr_20 : M_2 50 = none := by rw [eM_5, va_up_ne _ _ (by decide)]; exact fre11
  have hF_21 : ∀ j : Nat, j ≠ 24 → M_2 j = M j := fun j q0 => by rw [eM_5, va_up_ne _ _ q0]
  refine n_eqs (show ([.ref (ad_1 24), .ref (ad 23)] : List Value) = [.ref (ad_1 24), .ref (ad_1 23)] from by rw [hAd_7 23 (by decide)]) ?_
  refine h_putF (C := RX4) (T := TX4) (N := 7) hx hb hts i_RX4 tyX4 tyX4_ok nmX4 hown hI hm_9 rfl 0 (by decide) f_9 rfl rfl hini rfl rfl rfl (Nat.le_of_ble_eq_true rfl) dX4_init_10 (fun M_22 H_23 locs_24 eM_25 hI => ?_)
  have hm_26 : M_22 23 = some (.inr (5, [.ref (ad_1 24), .null, .null, .null, .null, .null, .int (nI 0)])) := by rw [eM_25]; exact va_up_self _ _ _
  have hm_27 : M_22 24 = some (aJ G 2160 (fun _ => 0)) := by rw [eM_25, va_up_ne _ _ (by decide)]; exact hm_8
  have fr_28 : M_22 25 = none := by rw [eM_25, va_up_ne _ _ (by decide)]; exact fr_10
  have fr_29 : M_22 26 = none := by rw [eM_25, va_up_ne _ _ (by decide)]; exact fr_11
  have fr_30 : M_22 27 = none := by rw [eM_25, va_up_ne _ _ (by decide)]; exact fr_12
  have fr_31 : M_22 28 = none := by rw [eM_25, va_up_ne _ _ (by decide)]; exact fr_13
  have fr_32 : M_22 44 = none := by rw [eM_25, va_up_ne _ _ (by decide)]; exact fr_14
  have fr_33 : M_22 45 = none := by rw [eM_25, va_up_ne _ _ (by decide)]; exact fr_15
  have fr_34 : M_22 46 = none := by rw [eM_25, va_up_ne _ _ (by decide)]; exact fr_16
  have fr_35 : M_22 47 = none := by rw [eM_25, va_up_ne _ _ (by decide)]; exact fr_17
  have fr_36 : M_22 48 = none := by rw [eM_25, va_up_ne _ _ (by decide)]; exact fr_18
  have fr_37 : M_22 49 = none := by rw [eM_25, va_up_ne _ _ (by decide)]; exact fr_19
  have fr_38 : M_22 50 = none := by rw [eM_25, va_up_ne _ _ (by decide)]; exact fr_20
  have hF_39 : ∀ j : Nat, j ≠ 24 → j ≠ 23 → M_22 j = M j := fun j q0 q1 => by rw [eM_25, va_up_ne _ _ q1]; exact hF_21 j q0
  clear hm_9 hm_8 fr_10 fr_11 fr_12 fr_13 fr_14 fr_15 fr_16 fr_17 fr_18 fr_19 fr_20 hF_21
  refine lv_aload_n hx hb dX4_init_13 rfl (lv_at hl 0 rfl) ?_
  refine n_eqv (show Value.ref (ad 23) = .ref (ad_1 23) from by rw [hAd_7 23 (by decide)]) ?_
  refine lv_bipush (v := nI 6) hx hb dX4_init_14 (by decide) ?_
  refine h_newa (atype := .int) (n := 6) (a0 := (6, .inl (nF (fun _ => 0)))) hx hb na_int 0 (ty := .int) rfl rfl (fun C h => by cases h) hI (ha_int 6) (by decide) (by decide) (Nat.le_of_ble_eq_true rfl) (Nat.le_of_ble_eq_true rfl) dX4_init_16 25 fr_28 (fun ad_40 M_41 H_42 hA_43 eM_44 hI => ?_)
  have hAd_46 : ∀ j : Nat, j ≠ 25 → ad_40 j = ad_1 j := fun j hj => by obtain ⟨q, e⟩ := hA_43; rw [e]; exact va_up_ne _ _ hj
  have hm_47 : M_41 25 = some (aI G 6 (nF (fun _ => 0))) := by rw [eM_44]; exact va_up_self _ _ _
  have hm_48 : M_41 23 = some (.inr (5, [.ref (ad_40 24), .null, .null, .null, .null, .null, .int (nI 0)])) := by rw [eM_44, va_up_ne _ _ (by decide), hm_26]; rw [hAd_46 24 (by decide)]
  have hm_49 : M_41 24 = some (aJ G 2160 (fun _ => 0)) := by rw [eM_44, va_up_ne _ _ (by decide), hm_27]
  have fr_50 : M_41 26 = none := by rw [eM_44, va_up_ne _ _ (by decide)]; exact fr_29
  have fr_51 : M_41 27 = none := by rw [eM_44, va_up_ne _ _ (by decide)]; exact fr_30
  have fr_52 : M_41 28 = none := by rw [eM_44, va_up_ne _ _ (by decide)]; exact fr_31
  have fr_53 : M_41 44 = none := by rw [eM_44, va_up_ne _ _ (by decide)]; exact fr_32
  have fr_54 : M_41 45 = none := by rw [eM_44, va_up_ne _ _ (by decide)]; exact fr_33
  have fr_55 : M_41 46 = none := by rw [eM_44, va_up_ne _ _ (by decide)]; exact fr_34
  have fr_56 : M_41 47 = none := by rw [eM_44, va_up_ne _ _ (by decide)]; exact fr_35
  have fr_57 : M_41 48 = none := by rw [eM_44, va_up_ne _ _ (by decide)]; exact fr_36
  have fr_58 : M_41 49 = none := by rw [eM_44, va_up_ne _ _ (by decide)]; exact fr_37
  have fr_59 : M_41 50 = none := by rw [eM_44, va_up_ne _ _ (by decide)]; exact fr_38
  clear hm_26 hm_27 fr_29 fr_30 fr_31 fr_32 fr_33 fr_34 fr_35 fr_36 fr_37 fr_38
  have hF_60 : ∀ j : Nat, j ≠ 24 → j ≠ 23 → j ≠ 25 → M_41 j = M j := fun j q0 q1 q2 => by rw [eM_44, va_up_ne _ _ q2]; exact hF_39 j q0 q1
  clear hF_39
  refine n_eqs (show ([.ref (ad_40 25), .ref (ad_1 23)] : List Value) = [.ref (ad_40 25), .ref (ad_40 23)] from by rw [hAd_46 23 (by decide)]) ?_
  refine h_putF (C := RX4) (T := TX4) (N := 7) hx hb hts i_RX4 tyX4 tyX4_ok nmX4 hown hI hm_48 rfl 1 (by decide) f_15 rfl rfl hini rfl rfl rfl (Nat.le_of_ble_eq_true rfl) dX4_init_18 (fun M_61 H_62 locs_63 eM_64 hI => ?_)
  have hm_65 : M_61 23 = some (.inr (5, [.ref (ad_40 24), .ref (ad_40 25), .null, .null, .null, .null, .int (nI 0)])) := by rw [eM_64]; exact va_up_self _ _ _
  have hm_66 : M_61 24 = some (aJ G 2160 (fun _ => 0)) := by rw [eM_64, va_up_ne _ _ (by decide)]; exact hm_49
  have hm_67 : M_61 25 = some (aI G 6 (nF (fun _ => 0))) := by rw [eM_64, va_up_ne _ _ (by decide)]; exact hm_47
  have fr_68 : M_61 26 = none := by rw [eM_64, va_up_ne _ _ (by decide)]; exact fr_50
  have fr_69 : M_61 27 = none := by rw [eM_64, va_up_ne _ _ (by decide)]; exact fr_51
  have fr_70 : M_61 28 = none := by rw [eM_64, va_up_ne _ _ (by decide)]; exact fr_52
  have fr_71 : M_61 44 = none := by rw [eM_64, va_up_ne _ _ (by decide)]; exact fr_53
  have fr_72 : M_61 45 = none := by rw [eM_64, va_up_ne _ _ (by decide)]; exact fr_54
  have fr_73 : M_61 46 = none := by rw [eM_64, va_up_ne _ _ (by decide)]; exact fr_55
  have fr_74 : M_61 47 = none := by rw [eM_64, va_up_ne _ _ (by decide)]; exact fr_56
  have fr_75 : M_61 48 = none := by rw [eM_64, va_up_ne _ _ (by decide)]; exact fr_57
  have fr_76 : M_61 49 = none := by rw [eM_64, va_up_ne _ _ (by decide)]; exact fr_58
  have fr_77 : M_61 50 = none := by rw [eM_64, va_up_ne _ _ (by decide)]; exact fr_59
  have hF_78 : ∀ j : Nat, j ≠ 24 → j ≠ 23 → j ≠ 25 → M_61 j = M j := fun j q0 q1 q2 => by rw [eM_64, va_up_ne _ _ q1]; exact hF_60 j q0 q1 q2
  clear hm_48 hm_49 hm_47 fr_50 fr_51 fr_52 fr_53 fr_54 fr_55 fr_56 fr_57 fr_58 fr_59 hF_60
  refine lv_aload_n hx hb dX4_init_21 rfl (lv_at hl 0 rfl) ?_
  refine n_eqv (show Value.ref (ad 23) = .ref (ad_40 23) from by rw [hAd_46 23 (by decide), hAd_7 23 (by decide)]) ?_
  refine lv_sipush (v := nI 240) hx hb dX4_init_22 (by decide) ?_
  refine h_newa (atype := .long) (n := 240) (a0 := (240, .inr (.inl (fun _ => 0)))) hx hb na_long 2 (ty := .long) rfl rfl (fun C h => by cases h) hI (ha_long 240) (by decide) (by decide) (Nat.le_of_ble_eq_true rfl) (Nat.le_of_ble_eq_true rfl) dX4_init_25 26 fr_68 (fun ad_79 M_80 H_81 hA_82 eM_83 hI => ?_)
  have hAd_85 : ∀ j : Nat, j ≠ 26 → ad_79 j = ad_40 j := fun j hj => by obtain ⟨q, e⟩ := hA_82; rw [e]; exact va_up_ne _ _ hj
  have hm_86 : M_80 26 = some (aJ G 240 (fun _ => 0)) := by rw [eM_83]; exact va_up_self _ _ _
  have hm_87 : M_80 23 = some (.inr (5, [.ref (ad_79 24), .ref (ad_79 25), .null, .null, .null, .null, .int (nI 0)])) := by rw [eM_83, va_up_ne _ _ (by decide), hm_65]; rw [hAd_85 24 (by decide), hAd_85 25 (by decide)]
  have hm_88 : M_80 24 = some (aJ G 2160 (fun _ => 0)) := by rw [eM_83, va_up_ne _ _ (by decide), hm_66]
  have hm_89 : M_80 25 = some (aI G 6 (nF (fun _ => 0))) := by rw [eM_83, va_up_ne _ _ (by decide), hm_67]
  have fr_90 : M_80 27 = none := by rw [eM_83, va_up_ne _ _ (by decide)]; exact fr_69
  have fr_91 : M_80 28 = none := by rw [eM_83, va_up_ne _ _ (by decide)]; exact fr_70
  have fr_92 : M_80 44 = none := by rw [eM_83, va_up_ne _ _ (by decide)]; exact fr_71
  have fr_93 : M_80 45 = none := by rw [eM_83, va_up_ne _ _ (by decide)]; exact fr_72
  have fr_94 : M_80 46 = none := by rw [eM_83, va_up_ne _ _ (by decide)]; exact fr_73
  have fr_95 : M_80 47 = none := by rw [eM_83, va_up_ne _ _ (by decide)]; exact fr_74
  have fr_96 : M_80 48 = none := by rw [eM_83, va_up_ne _ _ (by decide)]; exact fr_75
  have fr_97 : M_80 49 = none := by rw [eM_83, va_up_ne _ _ (by decide)]; exact fr_76
  have fr_98 : M_80 50 = none := by rw [eM_83, va_up_ne _ _ (by decide)]; exact fr_77
  clear hm_65 hm_66 hm_67 fr_69 fr_70 fr_71 fr_72 fr_73 fr_74 fr_75 fr_76 fr_77
  have hF_99 : ∀ j : Nat, j ≠ 24 → j ≠ 23 → j ≠ 25 → j ≠ 26 → M_80 j = M j := fun j q0 q1 q2 q3 => by rw [eM_83, va_up_ne _ _ q3]; exact hF_78 j q0 q1 q2
  clear hF_78
  refine n_eqs (show ([.ref (ad_79 26), .ref (ad_40 23)] : List Value) = [.ref (ad_79 26), .ref (ad_79 23)] from by rw [hAd_85 23 (by decide)]) ?_
  refine h_putF (C := RX4) (T := TX4) (N := 7) hx hb hts i_RX4 tyX4 tyX4_ok nmX4 hown hI hm_87 rfl 2 (by decide) f_19 rfl rfl hini rfl rfl rfl (Nat.le_of_ble_eq_true rfl) dX4_init_27 (fun M_100 H_101 locs_102 eM_103 hI => ?_)
  have hm_104 : M_100 23 = some (.inr (5, [.ref (ad_79 24), .ref (ad_79 25), .ref (ad_79 26), .null, .null, .null, .int (nI 0)])) := by rw [eM_103]; exact va_up_self _ _ _
  have hm_105 : M_100 24 = some (aJ G 2160 (fun _ => 0)) := by rw [eM_103, va_up_ne _ _ (by decide)]; exact hm_88
  have hm_106 : M_100 25 = some (aI G 6 (nF (fun _ => 0))) := by rw [eM_103, va_up_ne _ _ (by decide)]; exact hm_89
  have hm_107 : M_100 26 = some (aJ G 240 (fun _ => 0)) := by rw [eM_103, va_up_ne _ _ (by decide)]; exact hm_86
  have fr_108 : M_100 27 = none := by rw [eM_103, va_up_ne _ _ (by decide)]; exact fr_90
  have fr_109 : M_100 28 = none := by rw [eM_103, va_up_ne _ _ (by decide)]; exact fr_91
  have fr_110 : M_100 44 = none := by rw [eM_103, va_up_ne _ _ (by decide)]; exact fr_92
  have fr_111 : M_100 45 = none := by rw [eM_103, va_up_ne _ _ (by decide)]; exact fr_93
  have fr_112 : M_100 46 = none := by rw [eM_103, va_up_ne _ _ (by decide)]; exact fr_94
  have fr_113 : M_100 47 = none := by rw [eM_103, va_up_ne _ _ (by decide)]; exact fr_95
  have fr_114 : M_100 48 = none := by rw [eM_103, va_up_ne _ _ (by decide)]; exact fr_96
  have fr_115 : M_100 49 = none := by rw [eM_103, va_up_ne _ _ (by decide)]; exact fr_97
  have fr_116 : M_100 50 = none := by rw [eM_103, va_up_ne _ _ (by decide)]; exact fr_98
  have hF_117 : ∀ j : Nat, j ≠ 24 → j ≠ 23 → j ≠ 25 → j ≠ 26 → M_100 j = M j := fun j q0 q1 q2 q3 => by rw [eM_103, va_up_ne _ _ q1]; exact hF_99 j q0 q1 q2 q3
  clear hm_87 hm_88 hm_89 hm_86 fr_90 fr_91 fr_92 fr_93 fr_94 fr_95 fr_96 fr_97 fr_98 hF_99
  refine lv_aload_n hx hb dX4_init_30 rfl (lv_at hl 0 rfl) ?_
  refine n_eqv (show Value.ref (ad 23) = .ref (ad_79 23) from by rw [hAd_85 23 (by decide), hAd_46 23 (by decide), hAd_7 23 (by decide)]) ?_
  refine lv_iconst (v := nI 3) hx hb dX4_init_31 (by decide) ?_
  refine h_newa (atype := .long) (n := 3) (a0 := (3, .inr (.inl (fun _ => 0)))) hx hb na_long 2 (ty := .long) rfl rfl (fun C h => by cases h) hI (ha_long 3) (by decide) (by decide) (Nat.le_of_ble_eq_true rfl) (Nat.le_of_ble_eq_true rfl) dX4_init_32 27 fr_108 (fun ad_118 M_119 H_120 hA_121 eM_122 hI => ?_)
  have hAd_124 : ∀ j : Nat, j ≠ 27 → ad_118 j = ad_79 j := fun j hj => by obtain ⟨q, e⟩ := hA_121; rw [e]; exact va_up_ne _ _ hj
  have hm_125 : M_119 27 = some (aJ G 3 (fun _ => 0)) := by rw [eM_122]; exact va_up_self _ _ _
  have hm_126 : M_119 23 = some (.inr (5, [.ref (ad_118 24), .ref (ad_118 25), .ref (ad_118 26), .null, .null, .null, .int (nI 0)])) := by rw [eM_122, va_up_ne _ _ (by decide), hm_104]; rw [hAd_124 24 (by decide), hAd_124 25 (by decide), hAd_124 26 (by decide)]
  have hm_127 : M_119 24 = some (aJ G 2160 (fun _ => 0)) := by rw [eM_122, va_up_ne _ _ (by decide), hm_105]
  have hm_128 : M_119 25 = some (aI G 6 (nF (fun _ => 0))) := by rw [eM_122, va_up_ne _ _ (by decide), hm_106]
  have hm_129 : M_119 26 = some (aJ G 240 (fun _ => 0)) := by rw [eM_122, va_up_ne _ _ (by decide), hm_107]
  have fr_130 : M_119 28 = none := by rw [eM_122, va_up_ne _ _ (by decide)]; exact fr_109
  have fr_131 : M_119 44 = none := by rw [eM_122, va_up_ne _ _ (by decide)]; exact fr_110
  have fr_132 : M_119 45 = none := by rw [eM_122, va_up_ne _ _ (by decide)]; exact fr_111
  have fr_133 : M_119 46 = none := by rw [eM_122, va_up_ne _ _ (by decide)]; exact fr_112
  have fr_134 : M_119 47 = none := by rw [eM_122, va_up_ne _ _ (by decide)]; exact fr_113
  have fr_135 : M_119 48 = none := by rw [eM_122, va_up_ne _ _ (by decide)]; exact fr_114
  have fr_136 : M_119 49 = none := by rw [eM_122, va_up_ne _ _ (by decide)]; exact fr_115
  have fr_137 : M_119 50 = none := by rw [eM_122, va_up_ne _ _ (by decide)]; exact fr_116
  clear hm_104 hm_105 hm_106 hm_107 fr_109 fr_110 fr_111 fr_112 fr_113 fr_114 fr_115 fr_116
  have hF_138 : ∀ j : Nat, j ≠ 24 → j ≠ 23 → j ≠ 25 → j ≠ 26 → j ≠ 27 → M_119 j = M j := fun j q0 q1 q2 q3 q4 => by rw [eM_122, va_up_ne _ _ q4]; exact hF_117 j q0 q1 q2 q3
  clear hF_117
  refine n_eqs (show ([.ref (ad_118 27), .ref (ad_79 23)] : List Value) = [.ref (ad_118 27), .ref (ad_118 23)] from by rw [hAd_124 23 (by decide)]) ?_
  refine h_putF (C := RX4) (T := TX4) (N := 7) hx hb hts i_RX4 tyX4 tyX4_ok nmX4 hown hI hm_126 rfl 3 (by decide) f_22 rfl rfl hini rfl rfl rfl (Nat.le_of_ble_eq_true rfl) dX4_init_34 (fun M_139 H_140 locs_141 eM_142 hI => ?_)
  have hm_143 : M_139 23 = some (.inr (5, [.ref (ad_118 24), .ref (ad_118 25), .ref (ad_118 26), .ref (ad_118 27), .null, .null, .int (nI 0)])) := by rw [eM_142]; exact va_up_self _ _ _
  have hm_144 : M_139 24 = some (aJ G 2160 (fun _ => 0)) := by rw [eM_142, va_up_ne _ _ (by decide)]; exact hm_127
  have hm_145 : M_139 25 = some (aI G 6 (nF (fun _ => 0))) := by rw [eM_142, va_up_ne _ _ (by decide)]; exact hm_128
  have hm_146 : M_139 26 = some (aJ G 240 (fun _ => 0)) := by rw [eM_142, va_up_ne _ _ (by decide)]; exact hm_129
  have hm_147 : M_139 27 = some (aJ G 3 (fun _ => 0)) := by rw [eM_142, va_up_ne _ _ (by decide)]; exact hm_125
  have fr_148 : M_139 28 = none := by rw [eM_142, va_up_ne _ _ (by decide)]; exact fr_130
  have fr_149 : M_139 44 = none := by rw [eM_142, va_up_ne _ _ (by decide)]; exact fr_131
  have fr_150 : M_139 45 = none := by rw [eM_142, va_up_ne _ _ (by decide)]; exact fr_132
  have fr_151 : M_139 46 = none := by rw [eM_142, va_up_ne _ _ (by decide)]; exact fr_133
  have fr_152 : M_139 47 = none := by rw [eM_142, va_up_ne _ _ (by decide)]; exact fr_134
  have fr_153 : M_139 48 = none := by rw [eM_142, va_up_ne _ _ (by decide)]; exact fr_135
  have fr_154 : M_139 49 = none := by rw [eM_142, va_up_ne _ _ (by decide)]; exact fr_136
  have fr_155 : M_139 50 = none := by rw [eM_142, va_up_ne _ _ (by decide)]; exact fr_137
  have hF_156 : ∀ j : Nat, j ≠ 24 → j ≠ 23 → j ≠ 25 → j ≠ 26 → j ≠ 27 → M_139 j = M j := fun j q0 q1 q2 q3 q4 => by rw [eM_142, va_up_ne _ _ q1]; exact hF_138 j q0 q1 q2 q3 q4
  clear hm_126 hm_127 hm_128 hm_129 hm_125 fr_130 fr_131 fr_132 fr_133 fr_134 fr_135 fr_136 fr_137 hF_138
  refine lv_aload_n hx hb dX4_init_37 rfl (lv_at hl 0 rfl) ?_
  refine n_eqv (show Value.ref (ad 23) = .ref (ad_118 23) from by rw [hAd_124 23 (by decide), hAd_85 23 (by decide), hAd_46 23 (by decide), hAd_7 23 (by decide)]) ?_
  refine lv_iconst (v := nI 3) hx hb dX4_init_38 (by decide) ?_
  refine h_newa (atype := .int) (n := 3) (a0 := (3, .inl (nF (fun _ => 0)))) hx hb na_int 0 (ty := .int) rfl rfl (fun C h => by cases h) hI (ha_int 3) (by decide) (by decide) (Nat.le_of_ble_eq_true rfl) (Nat.le_of_ble_eq_true rfl) dX4_init_39 28 fr_148 (fun ad_157 M_158 H_159 hA_160 eM_161 hI => ?_)
  have hAd_163 : ∀ j : Nat, j ≠ 28 → ad_157 j = ad_118 j := fun j hj => by obtain ⟨q, e⟩ := hA_160; rw [e]; exact va_up_ne _ _ hj
  have hm_164 : M_158 28 = some (aI G 3 (nF (fun _ => 0))) := by rw [eM_161]; exact va_up_self _ _ _
  have hm_165 : M_158 23 = some (.inr (5, [.ref (ad_157 24), .ref (ad_157 25), .ref (ad_157 26), .ref (ad_157 27), .null, .null, .int (nI 0)])) := by rw [eM_161, va_up_ne _ _ (by decide), hm_143]; rw [hAd_163 24 (by decide), hAd_163 25 (by decide), hAd_163 26 (by decide), hAd_163 27 (by decide)]
  have hm_166 : M_158 24 = some (aJ G 2160 (fun _ => 0)) := by rw [eM_161, va_up_ne _ _ (by decide), hm_144]
  have hm_167 : M_158 25 = some (aI G 6 (nF (fun _ => 0))) := by rw [eM_161, va_up_ne _ _ (by decide), hm_145]
  have hm_168 : M_158 26 = some (aJ G 240 (fun _ => 0)) := by rw [eM_161, va_up_ne _ _ (by decide), hm_146]
  have hm_169 : M_158 27 = some (aJ G 3 (fun _ => 0)) := by rw [eM_161, va_up_ne _ _ (by decide), hm_147]
  have fr_170 : M_158 44 = none := by rw [eM_161, va_up_ne _ _ (by decide)]; exact fr_149
  have fr_171 : M_158 45 = none := by rw [eM_161, va_up_ne _ _ (by decide)]; exact fr_150
  have fr_172 : M_158 46 = none := by rw [eM_161, va_up_ne _ _ (by decide)]; exact fr_151
  have fr_173 : M_158 47 = none := by rw [eM_161, va_up_ne _ _ (by decide)]; exact fr_152
  have fr_174 : M_158 48 = none := by rw [eM_161, va_up_ne _ _ (by decide)]; exact fr_153
  have fr_175 : M_158 49 = none := by rw [eM_161, va_up_ne _ _ (by decide)]; exact fr_154
  have fr_176 : M_158 50 = none := by rw [eM_161, va_up_ne _ _ (by decide)]; exact fr_155
  clear hm_143 hm_144 hm_145 hm_146 hm_147 fr_149 fr_150 fr_151 fr_152 fr_153 fr_154 fr_155
  have hF_177 : ∀ j : Nat, j ≠ 24 → j ≠ 23 → j ≠ 25 → j ≠ 26 → j ≠ 27 → j ≠ 28 → M_158 j = M j := fun j q0 q1 q2 q3 q4 q5 => by rw [eM_161, va_up_ne _ _ q5]; exact hF_156 j q0 q1 q2 q3 q4
  clear hF_156
  refine n_eqs (show ([.ref (ad_157 28), .ref (ad_118 23)] : List Value) = [.ref (ad_157 28), .ref (ad_157 23)] from by rw [hAd_163 23 (by decide)]) ?_
  refine h_putF (C := RX4) (T := TX4) (N := 7) hx hb hts i_RX4 tyX4 tyX4_ok nmX4 hown hI hm_165 rfl 4 (by decide) f_25 rfl rfl hini rfl rfl rfl (Nat.le_of_ble_eq_true rfl) dX4_init_41 (fun M_178 H_179 locs_180 eM_181 hI => ?_)
  have hm_182 : M_178 23 = some (.inr (5, [.ref (ad_157 24), .ref (ad_157 25), .ref (ad_157 26), .ref (ad_157 27), .ref (ad_157 28), .null, .int (nI 0)])) := by rw [eM_181]; exact va_up_self _ _ _
  have hm_183 : M_178 24 = some (aJ G 2160 (fun _ => 0)) := by rw [eM_181, va_up_ne _ _ (by decide)]; exact hm_166
  have hm_184 : M_178 25 = some (aI G 6 (nF (fun _ => 0))) := by rw [eM_181, va_up_ne _ _ (by decide)]; exact hm_167
  have hm_185 : M_178 26 = some (aJ G 240 (fun _ => 0)) := by rw [eM_181, va_up_ne _ _ (by decide)]; exact hm_168
  have hm_186 : M_178 27 = some (aJ G 3 (fun _ => 0)) := by rw [eM_181, va_up_ne _ _ (by decide)]; exact hm_169
  have hm_187 : M_178 28 = some (aI G 3 (nF (fun _ => 0))) := by rw [eM_181, va_up_ne _ _ (by decide)]; exact hm_164
  have fr_188 : M_178 44 = none := by rw [eM_181, va_up_ne _ _ (by decide)]; exact fr_170
  have fr_189 : M_178 45 = none := by rw [eM_181, va_up_ne _ _ (by decide)]; exact fr_171
  have fr_190 : M_178 46 = none := by rw [eM_181, va_up_ne _ _ (by decide)]; exact fr_172
  have fr_191 : M_178 47 = none := by rw [eM_181, va_up_ne _ _ (by decide)]; exact fr_173
  have fr_192 : M_178 48 = none := by rw [eM_181, va_up_ne _ _ (by decide)]; exact fr_174
  have fr_193 : M_178 49 = none := by rw [eM_181, va_up_ne _ _ (by decide)]; exact fr_175
  have fr_194 : M_178 50 = none := by rw [eM_181, va_up_ne _ _ (by decide)]; exact fr_176
  have hF_195 : ∀ j : Nat, j ≠ 24 → j ≠ 23 → j ≠ 25 → j ≠ 26 → j ≠ 27 → j ≠ 28 → M_178 j = M j := fun j q0 q1 q2 q3 q4 q5 => by rw [eM_181, va_up_ne _ _ q1]; exact hF_177 j q0 q1 q2 q3 q4 q5
  clear hm_165 hm_166 hm_167 hm_168 hm_169 hm_164 fr_170 fr_171 fr_172 fr_173 fr_174 fr_175 fr_176 hF_177
  refine lv_aload_n hx hb dX4_init_44 rfl (lv_at hl 0 rfl) ?_
  refine n_eqv (show Value.ref (ad 23) = .ref (ad_157 23) from by rw [hAd_163 23 (by decide), hAd_124 23 (by decide), hAd_85 23 (by decide), hAd_46 23 (by decide), hAd_7 23 (by decide)]) ?_
  refine h_new (C := RX6) (T := TX6) (N := 8) (ci := 7) (fs := [.null, .null, .null, .null, .null, .null, .int (nI 0), .int (nI 0)]) hx hb hts i_RX6 tyX6 tyX6_ok hown nw_c28 nw_i28 nw_n28 hI rfl (fun j hj => match j, hj with | 0, _ => rfl | 1, _ => rfl | 2, _ => rfl | 3, _ => rfl | 4, _ => rfl | 5, _ => rfl | 6, _ => rfl | 7, _ => rfl | n + 8, h => absurd h (by omega)) (Nat.le_of_ble_eq_true rfl) (Nat.le_of_ble_eq_true rfl) dX4_init_45 44 fr_188 (fun ad_196 M_197 H_198 hA_199 eM_200 hI => ?_)
  have hAd_202 : ∀ j : Nat, j ≠ 44 → ad_196 j = ad_157 j := fun j hj => by obtain ⟨q, e⟩ := hA_199; rw [e]; exact va_up_ne _ _ hj
  have hm_203 : M_197 44 = some (.inr (7, [.null, .null, .null, .null, .null, .null, .int (nI 0), .int (nI 0)])) := by rw [eM_200]; exact va_up_self _ _ _
  have hm_204 : M_197 23 = some (.inr (5, [.ref (ad_196 24), .ref (ad_196 25), .ref (ad_196 26), .ref (ad_196 27), .ref (ad_196 28), .null, .int (nI 0)])) := by rw [eM_200, va_up_ne _ _ (by decide), hm_182]; rw [hAd_202 24 (by decide), hAd_202 25 (by decide), hAd_202 26 (by decide), hAd_202 27 (by decide), hAd_202 28 (by decide)]
  have hm_205 : M_197 24 = some (aJ G 2160 (fun _ => 0)) := by rw [eM_200, va_up_ne _ _ (by decide), hm_183]
  have hm_206 : M_197 25 = some (aI G 6 (nF (fun _ => 0))) := by rw [eM_200, va_up_ne _ _ (by decide), hm_184]
  have hm_207 : M_197 26 = some (aJ G 240 (fun _ => 0)) := by rw [eM_200, va_up_ne _ _ (by decide), hm_185]
  have hm_208 : M_197 27 = some (aJ G 3 (fun _ => 0)) := by rw [eM_200, va_up_ne _ _ (by decide), hm_186]
  have hm_209 : M_197 28 = some (aI G 3 (nF (fun _ => 0))) := by rw [eM_200, va_up_ne _ _ (by decide), hm_187]
  have fr_210 : M_197 45 = none := by rw [eM_200, va_up_ne _ _ (by decide)]; exact fr_189
  have fr_211 : M_197 46 = none := by rw [eM_200, va_up_ne _ _ (by decide)]; exact fr_190
  have fr_212 : M_197 47 = none := by rw [eM_200, va_up_ne _ _ (by decide)]; exact fr_191
  have fr_213 : M_197 48 = none := by rw [eM_200, va_up_ne _ _ (by decide)]; exact fr_192
  have fr_214 : M_197 49 = none := by rw [eM_200, va_up_ne _ _ (by decide)]; exact fr_193
  have fr_215 : M_197 50 = none := by rw [eM_200, va_up_ne _ _ (by decide)]; exact fr_194
  clear hm_182 hm_183 hm_184 hm_185 hm_186 hm_187 fr_189 fr_190 fr_191 fr_192 fr_193 fr_194
  have hF_216 : ∀ j : Nat, j ≠ 24 → j ≠ 23 → j ≠ 25 → j ≠ 26 → j ≠ 27 → j ≠ 28 → j ≠ 44 → M_197 j = M j := fun j q0 q1 q2 q3 q4 q5 q6 => by rw [eM_200, va_up_ne _ _ q6]; exact hF_195 j q0 q1 q2 q3 q4 q5
  clear hF_195
  refine n_eqs (show ([.ref (ad_196 44), .ref (ad_157 23)] : List Value) = [.ref (ad_196 44), .ref (ad_196 23)] from by rw [hAd_202 23 (by decide)]) ?_
  refine lv_dup hx hb dX4_init_48 rfl ?_
  refine k_Av (va_runIN (As := []) (rest := [.ref (ad_196 44), .ref (ad_196 23)]) ⟨hx, hb, hml, hown, hts⟩ (c_X6_init l G z ad_196 M_197 (k := 44) hm_203 fr_210 fr_211 fr_212 fr_213 fr_214 fr_215) ⟨va_cnB 0 hts (gU (lwg_of t_187 rfl)) rfl rfl rfl (nwm_at (i := 7) (q := ("LineStore$Matcher", 30, ⟨"LineStore$Question", "<init>", "()V"⟩, "LineStore")) hI rfl) sp_30 (by decide +kernel) ⟨Nat.le_of_ble_eq_true rfl, Nat.le_of_ble_eq_true rfl⟩, rfl, in_30⟩ hI.preS rfl rfl hl.1 rfl (lv_room (Nat.le_of_ble_eq_true rfl)) dX4_init_49 ⟨Nat.le_of_ble_eq_true rfl, Nat.le_of_ble_eq_true rfl⟩) hI (fun ad_222 M_219 H_220 locs_221 hp_218 hI => ?_)
  obtain ⟨hm_223, hm_224, hm_225, hm_226, hm_227, hm_228, hm_229, hF_230, hAd_231⟩ := hp_218
  have hm_232 : M_219 44 = some (cQuestion ad_222 44 0 0) := hm_223
  have hm_233 : M_219 45 = some (aI G 6 (nF (fun _ => 0))) := hm_224
  have hm_234 : M_219 46 = some (aZ G 6 (bF (fun _ => false))) := hm_225
  have hm_235 : M_219 47 = some (aI G 6 (nF (fun _ => 0))) := hm_226
  have hm_236 : M_219 48 = some (aI G 6 (nF (fun _ => 0))) := hm_227
  have hm_237 : M_219 49 = some (aI G 24 (nF (fun _ => 0))) := hm_228
  have hm_238 : M_219 50 = some (aI G 24 (nF (fun _ => 0))) := hm_229
  have hAd_239 : ∀ j : Nat, j ≠ 45 → j ≠ 46 → j ≠ 47 → j ≠ 48 → j ≠ 49 → j ≠ 50 → ad_222 j = ad_196 j := hAd_231
  have hF_240 : ∀ j : Nat, j ≠ 44 → j ≠ 45 → j ≠ 46 → j ≠ 47 → j ≠ 48 → j ≠ 49 → j ≠ 50 → M_219 j = M_197 j := hF_230
  have hm_241 : M_219 23 = some (.inr (5, [.ref (ad_222 24), .ref (ad_222 25), .ref (ad_222 26), .ref (ad_222 27), .ref (ad_222 28), .null, .int (nI 0)])) := by rw [hF_240 23 (by decide) (by decide) (by decide) (by decide) (by decide) (by decide) (by decide), hm_204]; rw [hAd_239 24 (by decide) (by decide) (by decide) (by decide) (by decide) (by decide), hAd_239 25 (by decide) (by decide) (by decide) (by decide) (by decide) (by decide), hAd_239 26 (by decide) (by decide) (by decide) (by decide) (by decide) (by decide), hAd_239 27 (by decide) (by decide) (by decide) (by decide) (by decide) (by decide), hAd_239 28 (by decide) (by decide) (by decide) (by decide) (by decide) (by decide)]
  have hm_242 : M_219 24 = some (aJ G 2160 (fun _ => 0)) := by rw [hF_240 24 (by decide) (by decide) (by decide) (by decide) (by decide) (by decide) (by decide), hm_205]
  have hm_243 : M_219 25 = some (aI G 6 (nF (fun _ => 0))) := by rw [hF_240 25 (by decide) (by decide) (by decide) (by decide) (by decide) (by decide) (by decide), hm_206]
  have hm_244 : M_219 26 = some (aJ G 240 (fun _ => 0)) := by rw [hF_240 26 (by decide) (by decide) (by decide) (by decide) (by decide) (by decide) (by decide), hm_207]
  have hm_245 : M_219 27 = some (aJ G 3 (fun _ => 0)) := by rw [hF_240 27 (by decide) (by decide) (by decide) (by decide) (by decide) (by decide) (by decide), hm_208]
  have hm_246 : M_219 28 = some (aI G 3 (nF (fun _ => 0))) := by rw [hF_240 28 (by decide) (by decide) (by decide) (by decide) (by decide) (by decide) (by decide), hm_209]
  clear hm_204 hm_205 hm_206 hm_207 hm_208 hm_209
  have hF_247 : ∀ j : Nat, j ≠ 24 → j ≠ 23 → j ≠ 25 → j ≠ 26 → j ≠ 27 → j ≠ 28 → j ≠ 44 → j ≠ 45 → j ≠ 46 → j ≠ 47 → j ≠ 48 → j ≠ 49 → j ≠ 50 → M_219 j = M j := fun j q0 q1 q2 q3 q4 q5 q6 q7 q8 q9 q10 q11 q12 => (hF_240 j q6 q7 q8 q9 q10 q11 q12).trans (hF_216 j q0 q1 q2 q3 q4 q5 q6)
  clear hF_216 hF_230
  refine n_eqs (show ([.ref (ad_196 44), .ref (ad_196 23)] : List Value) = [.ref (ad_222 44), .ref (ad_222 23)] from by rw [hAd_239 44 (by decide) (by decide) (by decide) (by decide) (by decide) (by decide), hAd_239 23 (by decide) (by decide) (by decide) (by decide) (by decide) (by decide)]) ?_
  refine h_put (C := RX4) (T := TX4) (N := 7) hx hb hts i_RX4 tyX4 tyX4_ok nmX4 hown hI hm_241 rfl 5 (by decide) f_31 rfl rfl rfl rfl (Nat.le_of_ble_eq_true rfl) dX4_init_52 (fun M_248 H_249 locs_250 eM_251 hI => ?_)
  have hm_252 : M_248 23 = some (.inr (5, [.ref (ad_222 24), .ref (ad_222 25), .ref (ad_222 26), .ref (ad_222 27), .ref (ad_222 28), .ref (ad_222 44), .int (nI 0)])) := by rw [eM_251]; exact va_up_self _ _ _
  have hm_253 : M_248 24 = some (aJ G 2160 (fun _ => 0)) := by rw [eM_251, va_up_ne _ _ (by decide)]; exact hm_242
  have hm_254 : M_248 25 = some (aI G 6 (nF (fun _ => 0))) := by rw [eM_251, va_up_ne _ _ (by decide)]; exact hm_243
  have hm_255 : M_248 26 = some (aJ G 240 (fun _ => 0)) := by rw [eM_251, va_up_ne _ _ (by decide)]; exact hm_244
  have hm_256 : M_248 27 = some (aJ G 3 (fun _ => 0)) := by rw [eM_251, va_up_ne _ _ (by decide)]; exact hm_245
  have hm_257 : M_248 28 = some (aI G 3 (nF (fun _ => 0))) := by rw [eM_251, va_up_ne _ _ (by decide)]; exact hm_246
  have hm_258 : M_248 44 = some (cQuestion ad_222 44 0 0) := by rw [eM_251, va_up_ne _ _ (by decide)]; exact hm_232
  have hm_259 : M_248 45 = some (aI G 6 (nF (fun _ => 0))) := by rw [eM_251, va_up_ne _ _ (by decide)]; exact hm_233
  have hm_260 : M_248 46 = some (aZ G 6 (bF (fun _ => false))) := by rw [eM_251, va_up_ne _ _ (by decide)]; exact hm_234
  have hm_261 : M_248 47 = some (aI G 6 (nF (fun _ => 0))) := by rw [eM_251, va_up_ne _ _ (by decide)]; exact hm_235
  have hm_262 : M_248 48 = some (aI G 6 (nF (fun _ => 0))) := by rw [eM_251, va_up_ne _ _ (by decide)]; exact hm_236
  have hm_263 : M_248 49 = some (aI G 24 (nF (fun _ => 0))) := by rw [eM_251, va_up_ne _ _ (by decide)]; exact hm_237
  have hm_264 : M_248 50 = some (aI G 24 (nF (fun _ => 0))) := by rw [eM_251, va_up_ne _ _ (by decide)]; exact hm_238
  have hF_265 : ∀ j : Nat, j ≠ 24 → j ≠ 23 → j ≠ 25 → j ≠ 26 → j ≠ 27 → j ≠ 28 → j ≠ 44 → j ≠ 45 → j ≠ 46 → j ≠ 47 → j ≠ 48 → j ≠ 49 → j ≠ 50 → M_248 j = M j := fun j q0 q1 q2 q3 q4 q5 q6 q7 q8 q9 q10 q11 q12 => by rw [eM_251, va_up_ne _ _ q1]; exact hF_247 j q0 q1 q2 q3 q4 q5 q6 q7 q8 q9 q10 q11 q12
  clear hm_241 hm_242 hm_243 hm_244 hm_245 hm_246 hm_232 hm_233 hm_234 hm_235 hm_236 hm_237 hm_238 hF_247
  exact e_Av hx hb hr hlocks hI ⟨hm_252, hm_253, hm_254, hm_255, hm_256, hm_257, hm_258, hm_259, hm_260, hm_261, hm_262, hm_263, hm_264, (fun j q0 q1 q2 q3 q4 q5 q6 q7 q8 q9 q10 q11 q12 => hF_265 j q1 q0 q2 q3 q4 q5 q6 q7 q8 q9 q10 q11 q12), (fun j q0 q1 q2 q3 q4 q5 q6 q7 q8 q9 q10 q11 => (by show ad_222 j = ad j; rw [hAd_239 j q6 q7 q8 q9 q10 q11, hAd_202 j q5, hAd_163 j q4, hAd_124 j q3, hAd_85 j q2, hAd_46 j q1, hAd_7 j q0]))⟩ dX4_init_55
