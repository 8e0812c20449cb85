/-- X10_init -/
abbrev rm_c_X10_init : Room := { frames := 2, cells := 27, slots := 387110, locals := 54 }
set_option maxHeartbeats 4000000 in
set_option maxRecDepth 100000 in
theorem c_X10_init (l : Launch) (G : GG) (z : Nat) (ad : Nat → Nat) (M : Mem)  (h60 : M 60 = some (.inr (11, [.int (nI 0), .null, .null, .null, .null, .null, .null, .null, .null, .null, .null, .int (nI 0), .null, .null, .null, .int (nI 0), .null, .null, .null, .null, .null, .null, .int (nI 0), .int (nI 0), .int (nI 0), .null, .int (nI 0), .int (nI 0), .int (nI 0), .int (nI 0), .int (nI 0), .null, .null, .null, .null, .null, .null, .null]))) (fre0 : M 61 = none) (fre1 : M 62 = none) (fre2 : M 63 = none) (fre3 : M 64 = none) (fre4 : M 65 = none) (fre5 : M 66 = none) (fre6 : M 67 = none) (fre7 : M 68 = none) (fre8 : M 69 = none) (fre9 : M 70 = none) (fre10 : M 71 = none) (fre11 : M 72 = none) (fre12 : M 73 = none) (fre13 : M 74 = none) (fre14 : M 75 = none) (fre15 : M 76 = none) (fre16 : M 77 = none) (fre17 : M 78 = none) (fre18 : M 79 = none) (fre19 : M 80 = none) (fre20 : M 81 = none) (fre21 : M 82 = none) (fre22 : M 83 = none) (fre23 : M 84 = none) (fre24 : M 85 = none) (fre25 : M 86 = none) (fre26 : M 87 = none) : Met l yX10_init wsX10_init rm_c_X10_init (Pr G z ad M [.ref (ad 60)]) (Av G z (fun (u : (Nat → Nat) × Mem) => ∃ mo : Nat → Nat, ∃ ho : Nat → Bool, ∃ l2 : Nat → Nat, u.2 60 = some (cModel u.1 0 0 0 0 0 0 0 0 0 0 (-1)) ∧ u.2 61 = some (aI G 36 (nF (fun _ => 0))) ∧ u.2 62 = some (aI G 36 (nF mo)) ∧ u.2 63 = some (aI G 36 (nF (fun _ => 0))) ∧ u.2 64 = some (aZ G 6 (bF ho)) ∧ u.2 65 = some (aI G 120 (nF (fun _ => 0))) ∧ u.2 66 = some (aI G 120 (nF (fun _ => 0))) ∧ u.2 67 = some (aI G 120 (nF (fun _ => 0))) ∧ u.2 68 = some (aI G 121 (nF (fun _ => 0))) ∧ u.2 69 = some (aI G 726 (nF (fun _ => 0))) ∧ u.2 70 = some (aI G 726 (nF (fun _ => 0))) ∧ u.2 71 = some (aI G 40 (nF l2)) ∧ u.2 72 = some (aI G 40 (nF (fun _ => 0))) ∧ u.2 73 = some (aI G 40 (nF (fun _ => 0))) ∧ u.2 74 = some (aI G 120 (nF (fun _ => 0))) ∧ u.2 75 = some (aI G 12 (nF (fun _ => 0))) ∧ u.2 76 = some (aZ G 12 (bF (fun _ => false))) ∧ u.2 77 = some (aI G 12 (nF (fun _ => 0))) ∧ u.2 78 = some (aI G 48 (nF (fun _ => 0))) ∧ u.2 79 = some (aI G 48 (nF (fun _ => 0))) ∧ u.2 80 = some (aB G 400 (fun _ => 0)) ∧ u.2 81 = some (aI G 5 (nF (fun _ => 0))) ∧ u.2 82 = some (aZ G 384000 (bF (fun _ => false))) ∧ u.2 83 = some (aI G 3 (nF (fun _ => 0))) ∧ u.2 84 = some (aI G 3 (nF (fun _ => 0))) ∧ u.2 85 = some (aZ G 40 (bF (fun _ => false))) ∧ u.2 86 = some (aZ G 120 (bF (fun _ => false))) ∧ u.2 87 = some (aZ G 120 (bF (fun _ => false))) ∧ (∀ j : Nat, j ≠ 60 → j ≠ 61 → j ≠ 62 → j ≠ 63 → j ≠ 64 → j ≠ 65 → j ≠ 66 → j ≠ 67 → j ≠ 68 → j ≠ 69 → j ≠ 70 → j ≠ 71 → j ≠ 72 → j ≠ 73 → j ≠ 74 → j ≠ 75 → j ≠ 76 → j ≠ 77 → j ≠ 78 → j ≠ 79 → j ≠ 80 → j ≠ 81 → j ≠ 82 → j ≠ 83 → j ≠ 84 → j ≠ 85 → j ≠ 86 → j ≠ 87 → u.2 j = M j) ∧ (∀ j : Nat, j ≠ 61 → j ≠ 62 → j ≠ 63 → j ≠ 64 → j ≠ 65 → j ≠ 66 → j ≠ 67 → j ≠ 68 → j ≠ 69 → j ≠ 70 → j ≠ 71 → j ≠ 72 → j ≠ 73 → j ≠ 74 → j ≠ 75 → j ≠ 76 → j ≠ 77 → j ≠ 78 → j ≠ 79 → j ≠ 80 → j ≠ 81 → j ≠ 82 → j ≠ 83 → j ≠ 84 → j ≠ 85 → j ≠ 86 → j ≠ 87 → u.1 j = ad j) ∧ (((∀ i, i < 36 → mo i = 6) ∧ ∀ i, i < 6 → ho i = true) ∧ ∀ t, t < 40 → l2 t = t))) 27 387110 (fr z) := by
  refine Met.ofW (cc := cX10_init) (maxL := 2) (ret := none) (by decide) rfl ?_
  intro p e s m args below meth c s₁ B hml hv
  obtain ⟨rfl, hv⟩ := hv
  have hI := Iv.entry hv
  have hx := B.exec
  have hb := B.bytes
  have hr := B.returns
  have hts := atoms_spec (ws := wsX10_init) B.pre
  have hown : s.vm.findClass RX10 = some m.cls := findClass_of_methodNamed B.named
  have hlocks := B.notSynchronized
  have hini : meth.name = "<init>" := (name_of_methodNamed B.named B.method).1
  have m_7 := hts _ (List.mem_cons_of_mem _ (lwg_of t_1006 rfl))
  have n_oi := hts _ (List.mem_cons_of_mem _ (lwg_of t_39 rfl))
  have n_oc := hts _ (List.mem_cons_of_mem _ (lwg_of t_40 rfl))
  have na_int := hts _ (List.mem_cons_of_mem _ (lwg_of t_54 rfl))
  have f_13 := hts _ (List.mem_cons_of_mem _ (lwg_of t_1014 rfl))
  have i_RX10 : ∀ w ∈ u_ws RX10 TX10 38, w ∈ wsX10_init := fun w h => List.mem_cons_of_mem _ (iu_X10 w h)
  have f_17 := hts _ (List.mem_cons_of_mem _ (lwg_of t_1015 rfl))
  have f_20 := hts _ (List.mem_cons_of_mem _ (lwg_of t_1016 rfl))
  have na_boolean := hts _ (List.mem_cons_of_mem _ (lwg_of t_74 rfl))
  have f_23 := hts _ (List.mem_cons_of_mem _ (lwg_of t_1017 rfl))
  have f_27 := hts _ (List.mem_cons_of_mem _ (lwg_of t_1018 rfl))
  have f_30 := hts _ (List.mem_cons_of_mem _ (lwg_of t_1019 rfl))
  have f_33 := hts _ (List.mem_cons_of_mem _ (lwg_of t_1020 rfl))
  have f_36 := hts _ (List.mem_cons_of_mem _ (lwg_of t_1021 rfl))
  have f_39 := hts _ (List.mem_cons_of_mem _ (lwg_of t_1022 rfl))
  have f_42 := hts _ (List.mem_cons_of_mem _ (lwg_of t_1023 rfl))
  have f_45 := hts _ (List.mem_cons_of_mem _ (lwg_of t_1025 rfl))
  have f_48 := hts _ (List.mem_cons_of_mem _ (lwg_of t_1026 rfl))
  have f_51 := hts _ (List.mem_cons_of_mem _ (lwg_of t_1027 rfl))
  have f_54 := hts _ (List.mem_cons_of_mem _ (lwg_of t_1029 rfl))
  have f_57 := hts _ (List.mem_cons_of_mem _ (lwg_of t_1030 rfl))
  have f_60 := hts _ (List.mem_cons_of_mem _ (lwg_of t_1031 rfl))
  have f_63 := hts _ (List.mem_cons_of_mem _ (lwg_of t_1032 rfl))
  have f_66 := hts _ (List.mem_cons_of_mem _ (lwg_of t_1033 rfl))
  have f_69 := hts _ (List.mem_cons_of_mem _ (lwg_of t_1034 rfl))
  have na_byte := hts _ (List.mem_cons_of_mem _ (lwg_of t_548 rfl))
  have f_72 := hts _ (List.mem_cons_of_mem _ (lwg_of t_1038 rfl))
  have f_76 := hts _ (List.mem_cons_of_mem _ (lwg_of t_1043 rfl))
  have f_79 := hts _ (List.mem_cons_of_mem _ (lwg_of t_1044 rfl))
  have k_82 := hts _ (List.mem_cons_of_mem _ (lwg_of t_1007 rfl))
  have f_83 := hts _ (List.mem_cons_of_mem _ (lwg_of t_1045 rfl))
  have f_86 := hts _ (List.mem_cons_of_mem _ (lwg_of t_1046 rfl))
  have f_89 := hts _ (List.mem_cons_of_mem _ (lwg_of t_1047 rfl))
  have f_92 := hts _ (List.mem_cons_of_mem _ (lwg_of t_1048 rfl))
  have f_95 := hts _ (List.mem_cons_of_mem _ (lwg_of t_1049 rfl))
  have f_98 := hts _ (List.mem_cons_of_mem _ (lwg_of t_1050 rfl))
  have hl := lv_entry ([.ref (ad 60)]) (n := 2) (Nat.le_of_ble_eq_true rfl)
  rw [lg_entry_eq]
  generalize (lg_sl ([.ref (ad 60)]) ++ List.replicate (2 - (lg_sl ([.ref (ad 60)])).length) Slot.unset).toArray = ls at hl ⊢
  have hl : lv_has ls 2 [(0, .ref (ad 60))] := hl
  refine w_q (fun Q hQ => ?_)
  refine lv_aload_n hx hb dX10_init_0 rfl (lv_at hl 0 rfl) ?_
  refine W.objInit hx hb hown m_7 n_oi n_oc rfl (by rw [hml]; exact hl.1) rfl dX10_init_1 (Nat.le_of_ble_eq_true rfl) (Nat.le_of_ble_eq_true rfl) ?_
  refine W.eq (g2 := F0 m 4 ls []) rfl ?_
  refine lv_aload_n hx hb dX10_init_4 rfl (lv_at hl 0 rfl) ?_
  refine lv_bipush (v := nI 36) hx hb dX10_init_5 (by decide) ?_
  refine h_newa (atype := .int) (n := 36) (a0 := (36, .inl (nF (fun _ => 0)))) hx hb na_int 0 (ty := .int) rfl rfl (fun C h => by cases h) hI (ha_int 36) (by decide) (by decide) (Nat.le_of_ble_eq_true rfl) (Nat.le_of_ble_eq_true rfl) dX10_init_7 61 fre0 (fun ad_1 M_2 H_3 hA_4 eM_5 hI => ?_)
  have hAd_7 : ∀ j : Nat, j ≠ 61 → ad_1 j = ad j := fun j hj => by obtain ⟨q, e⟩ := hA_4; rw [e]; exact va_up_ne _ _ hj
  have hm_8 : M_2 61 = some (aI G 36 (nF (fun _ => 0))) := by rw [eM_5]; exact va_up_self _ _ _
  have hm_9 : M_2 60 = some (.inr (11, [.int (nI 0), .null, .null, .null, .null, .null, .null, .null, .null, .null, .null, .int (nI 0), .null, .null, .null, .int (nI 0), .null, .null, .null, .null, .null, .null, .int (nI 0), .int (nI 0), .int (nI 0), .null, .int (nI 0), .int (nI 0), .int (nI 0), .int (nI 0), .int (nI 0), .null, .null, .null, .null, .null, .null, .null])) := by rw [eM_5, va_up_ne _ _ (by decide), h60]
  have fr_10 : M_2 62 = none := by rw [eM_5, va_up_ne _ _ (by decide)]; exact fre1
  have fr_11 : M_2 63 = none := by rw [eM_5, va_up_ne _ _ (by decide)]; exact fre2
  have fr_12 : M_2 64 = none := by rw [eM_5, va_up_ne _ _ (by decide)]; exact fre3
  have fr_13 : M_2 65 = none := by rw [eM_5, va_up_ne _ _ (by decide)]; exact fre4
  have fr_14 : M_2 66 = none := by rw [eM_5, va_up_ne _ _ (by decide)]; exact fre5
  have fr_15 : M_2 67 = none := by rw [eM_5, va_up_ne _ _ (by decide)]; exact fre6
  have fr_16 : M_2 68 = none := by rw [eM_5, va_up_ne _ _ (by decide)]; exact fre7
  have fr_17 : M_2 69 = none := by rw [eM_5, va_up_ne _ _ (by decide)]; exact fre8
  have fr_18 : M_2 70 = none := by rw [eM_5, va_up_ne _ _ (by decide)]; exact fre9
  have fr_19 : M_2 71 = none := by rw [eM_5, va_up_ne _ _ (by decide)]; exact fre10
  have fr_20 : M_2 72 = none := by rw [eM_5, va_up_ne _ _ (by decide)]; exact fre11
  have fr_21 : M_2 73 = none := by rw [eM_5, va_up_ne _ _ (by decide)]; exact fre12
  have fr_22 : M_2 74 = none := by rw [eM_5, va_up_ne _ _ (by decide)]; exact fre13
  have fr_23 : M_2 75 = none := by rw [eM_5, va_up_ne _ _ (by decide)]; exact fre14
  have fr_24 : M_2 76 = none := by rw [eM_5, va_up_ne _ _ (by decide)]; exact fre15
  have fr_25 : M_2 77 = none := by rw [eM_5, va_up_ne _ _ (by decide)]; exact fre16
  have fr_26 : M_2 78 = none := by rw [eM_5, va_up_ne _ _ (by decide)]; exact fre17
  have fr_27 : M_2 79 = none := by rw [eM_5, va_up_ne _ _ (by decide)]; exact fre18
  have fr_28 : M_2 80 = none := by rw [eM_5, va_up_ne _ _ (by decide)]; exact fre19
  have fr_29 : M_2 81 = none := by rw [eM_5, va_up_ne _ _ (by decide)]; exact fre20
  have fr_30 : M_2 82 = none := by rw [eM_5, va_up_ne _ _ (by decide)]; exact fre21
  have fr_31 : M_2 83 = none := by rw [eM_5, va_up_ne _ _ (by decide)]; exact fre22
  have fr_32 : M_2 84 = none := by rw [eM_5, va_up_ne _ _ (by decide)]; exact fre23
  have fr_33 : M_2 85 = none := by rw [eM_5, va_up_ne _ _ (by decide)]; exact fre24
  have fr_34 : M_2 86 = none := by rw [eM_5, va_up_ne _ _ (by decide)]; exact fre25
  have fr_35 : M_2 87 = none := by rw [eM_5, va_up_ne _ _ (by decide)]; exact fre26
  have hF_36 : ∀ j : Nat, j ≠ 61 → M_2 j = M j := fun j q0 => by rw [eM_5, va_up_ne _ _ q0]
  refine n_eqs (show ([.ref (ad_1 61), .ref (ad 60)] : List Value) = [.ref (ad_1 61), .ref (ad_1 60)] from by rw [hAd_7 60 (by decide)]) ?_
  refine h_putF (C := RX10) (T := TX10) (N := 38) hx hb hts i_RX10 tyX10 tyX10_ok nmX10 hown hI hm_9 rfl 1 (by decide) f_13 rfl rfl hini rfl rfl rfl (Nat.le_of_ble_eq_true rfl) dX10_init_9 (fun M_37 H_38 locs_39 eM_40 hI => ?_)
  have hm_41 : M_37 60 = some (.inr (11, [.int (nI 0), .ref (ad_1 61), .null, .null, .null, .null, .null, .null, .null, .null, .null, .int (nI 0), .null, .null, .null, .int (nI 0), .null, .null, .null, .null, .null, .null, .int (nI 0), .int (nI 0), .int (nI 0), .null, .int (nI 0), .int (nI 0), .int (nI 0), .int (nI 0), .int (nI 0), .null, .null, .null, .null, .null, .null, .null])) := by rw [eM_40]; exact va_up_self _ _ _
  have hm_42 : M_37 61 = some (aI G 36 (nF (fun _ => 0))) := by rw [eM_40, va_up_ne _ _ (by decide)]; exact hm_8
  have fr_43 : M_37 62 = none := by rw [eM_40, va_up_ne _ _ (by decide)]; exact fr_10
  have fr_44 : M_37 63 = none := by rw [eM_40, va_up_ne _ _ (by decide)]; exact fr_11
  have fr_45 : M_37 64 = none := by rw [eM_40, va_up_ne _ _ (by decide)]; exact fr_12
  have fr_46 : M_37 65 = none := by rw [eM_40, va_up_ne _ _ (by decide)]; exact fr_13
  have fr_47 : M_37 66 = none := by rw [eM_40, va_up_ne _ _ (by decide)]; exact fr_14
  have fr_48 : M_37 67 = none := by rw [eM_40, va_up_ne _ _ (by decide)]; exact fr_15
  have fr_49 : M_37 68 = none := by rw [eM_40, va_up_ne _ _ (by decide)]; exact fr_16
  have fr_50 : M_37 69 = none := by rw [eM_40, va_up_ne _ _ (by decide)]; exact fr_17
  have fr_51 : M_37 70 = none := by rw [eM_40, va_up_ne _ _ (by decide)]; exact fr_18
  have fr_52 : M_37 71 = none := by rw [eM_40, va_up_ne _ _ (by decide)]; exact fr_19
  have fr_53 : M_37 72 = none := by rw [eM_40, va_up_ne _ _ (by decide)]; exact fr_20
  have fr_54 : M_37 73 = none := by rw [eM_40, va_up_ne _ _ (by decide)]; exact fr_21
  have fr_55 : M_37 74 = none := by rw [eM_40, va_up_ne _ _ (by decide)]; exact fr_22
  have fr_56 : M_37 75 = none := by rw [eM_40, va_up_ne _ _ (by decide)]; exact fr_23
  have fr_57 : M_37 76 = none := by rw [eM_40, va_up_ne _ _ (by decide)]; exact fr_24
  have fr_58 : M_37 77 = none := by rw [eM_40, va_up_ne _ _ (by decide)]; exact fr_25
  have fr_59 : M_37 78 = none := by rw [eM_40, va_up_ne _ _ (by decide)]; exact fr_26
  have fr_60 : M_37 79 = none := by rw [eM_40, va_up_ne _ _ (by decide)]; exact fr_27
  have fr_61 : M_37 80 = none := by rw [eM_40, va_up_ne _ _ (by decide)]; exact fr_28
  have fr_62 : M_37 81 = none := by rw [eM_40, va_up_ne _ _ (by decide)]; exact fr_29
  have fr_63 : M_37 82 = none := by rw [eM_40, va_up_ne _ _ (by decide)]; exact fr_30
  have fr_64 : M_37 83 = none := by rw [eM_40, va_up_ne _ _ (by decide)]; exact fr_31
  have fr_65 : M_37 84 = none := by rw [eM_40, va_up_ne _ _ (by decide)]; exact fr_32
  have fr_66 : M_37 85 = none := by rw [eM_40, va_up_ne _ _ (by decide)]; exact fr_33
  have fr_67 : M_37 86 = none := by rw [eM_40, va_up_ne _ _ (by decide)]; exact fr_34
  have fr_68 : M_37 87 = none := by rw [eM_40, va_up_ne _ _ (by decide)]; exact fr_35
  have hF_69 : ∀ j : Nat, j ≠ 61 → j ≠ 60 → M_37 j = M j := fun j q0 q1 => by rw [eM_40, va_up_ne _ _ q1]; exact hF_36 j q0
  clear hm_9 hm_8 fr_10 fr_11 fr_12 fr_13 fr_14 fr_15 fr_16 fr_17 fr_18 fr_19 fr_20 fr_21 fr_22 fr_23 fr_24 fr_25 fr_26 fr_27 fr_28 fr_29 fr_30 fr_31 fr_32 fr_33 fr_34 fr_35 hF_36
  refine lv_aload_n hx hb dX10_init_12 rfl (lv_at hl 0 rfl) ?_
  refine n_eqv (show Value.ref (ad 60) = .ref (ad_1 60) from by rw [hAd_7 60 (by decide)]) ?_
  refine lv_bipush (v := nI 36) hx hb dX10_init_13 (by decide) ?_
  refine h_newa (atype := .int) (n := 36) (a0 := (36, .inl (nF (fun _ => 0)))) hx hb na_int 0 (ty := .int) rfl rfl (fun C h => by cases h) hI (ha_int 36) (by decide) (by decide) (Nat.le_of_ble_eq_true rfl) (Nat.le_of_ble_eq_true rfl) dX10_init_15 62 fr_43 (fun ad_70 M_71 H_72 hA_73 eM_74 hI => ?_)
  have hAd_76 : ∀ j : Nat, j ≠ 62 → ad_70 j = ad_1 j := fun j hj => by obtain ⟨q, e⟩ := hA_73; rw [e]; exact va_up_ne _ _ hj
  have hm_77 : M_71 62 = some (aI G 36 (nF (fun _ => 0))) := by rw [eM_74]; exact va_up_self _ _ _
  have hm_78 : M_71 60 = some (.inr (11, [.int (nI 0), .ref (ad_70 61), .null, .null, .null, .null, .null, .null, .null, .null, .null, .int (nI 0), .null, .null, .null, .int (nI 0), .null, .null, .null, .null, .null, .null, .int (nI 0), .int (nI 0), .int (nI 0), .null, .int (nI 0), .int (nI 0), .int (nI 0), .int (nI 0), .int (nI 0), .null, .null, .null, .null, .null, .null, .null])) := by rw [eM_74, va_up_ne _ _ (by decide), hm_41]; rw [hAd_76 61 (by decide)]
  have hm_79 : M_71 61 = some (aI G 36 (nF (fun _ => 0))) := by rw [eM_74, va_up_ne _ _ (by decide), hm_42]
  have fr_80 : M_71 63 = none := by rw [eM_74, va_up_ne _ _ (by decide)]; exact fr_44
  have fr_81 : M_71 64 = none := by rw [eM_74, va_up_ne _ _ (by decide)]; exact fr_45
  have fr_82 : M_71 65 = none := by rw [eM_74, va_up_ne _ _ (by decide)]; exact fr_46
  have fr_83 : M_71 66 = none := by rw [eM_74, va_up_ne _ _ (by decide)]; exact fr_47
  have fr_84 : M_71 67 = none := by rw [eM_74, va_up_ne _ _ (by decide)]; exact fr_48
  have fr_85 : M_71 68 = none := by rw [eM_74, va_up_ne _ _ (by decide)]; exact fr_49
  have fr_86 : M_71 69 = none := by rw [eM_74, va_up_ne _ _ (by decide)]; exact fr_50
  have fr_87 : M_71 70 = none := by rw [eM_74, va_up_ne _ _ (by decide)]; exact fr_51
  have fr_88 : M_71 71 = none := by rw [eM_74, va_up_ne _ _ (by decide)]; exact fr_52
  have fr_89 : M_71 72 = none := by rw [eM_74, va_up_ne _ _ (by decide)]; exact fr_53
  have fr_90 : M_71 73 = none := by rw [eM_74, va_up_ne _ _ (by decide)]; exact fr_54
  have fr_91 : M_71 74 = none := by rw [eM_74, va_up_ne _ _ (by decide)]; exact fr_55
  have fr_92 : M_71 75 = none := by rw [eM_74, va_up_ne _ _ (by decide)]; exact fr_56
  have fr_93 : M_71 76 = none := by rw [eM_74, va_up_ne _ _ (by decide)]; exact fr_57
  have fr_94 : M_71 77 = none := by rw [eM_74, va_up_ne _ _ (by decide)]; exact fr_58
  have fr_95 : M_71 78 = none := by rw [eM_74, va_up_ne _ _ (by decide)]; exact fr_59
  have fr_96 : M_71 79 = none := by rw [eM_74, va_up_ne _ _ (by decide)]; exact fr_60
  have fr_97 : M_71 80 = none := by rw [eM_74, va_up_ne _ _ (by decide)]; exact fr_61
  have fr_98 : M_71 81 = none := by rw [eM_74, va_up_ne _ _ (by decide)]; exact fr_62
  have fr_99 : M_71 82 = none := by rw [eM_74, va_up_ne _ _ (by decide)]; exact fr_63
  have fr_100 : M_71 83 = none := by rw [eM_74, va_up_ne _ _ (by decide)]; exact fr_64
  have fr_101 : M_71 84 = none := by rw [eM_74, va_up_ne _ _ (by decide)]; exact fr_65
  have fr_102 : M_71 85 = none := by rw [eM_74, va_up_ne _ _ (by decide)]; exact fr_66
  have fr_103 : M_71 86 = none := by rw [eM_74, va_up_ne _ _ (by decide)]; exact fr_67
  have fr_104 : M_71 87 = none := by rw [eM_74, va_up_ne _ _ (by decide)]; exact fr_68
  clear hm_41 hm_42 fr_44 fr_45 fr_46 fr_47 fr_48 fr_49 fr_50 fr_51 fr_52 fr_53 fr_54 fr_55 fr_56 fr_57 fr_58 fr_59 fr_60 fr_61 fr_62 fr_63 fr_64 fr_65 fr_66 fr_67 fr_68
  have hF_105 : ∀ j : Nat, j ≠ 61 → j ≠ 60 → j ≠ 62 → M_71 j = M j := fun j q0 q1 q2 => by rw [eM_74, va_up_ne _ _ q2]; exact hF_69 j q0 q1
  clear hF_69
  refine n_eqs (show ([.ref (ad_70 62), .ref (ad_1 60)] : List Value) = [.ref (ad_70 62), .ref (ad_70 60)] from by rw [hAd_76 60 (by decide)]) ?_
  refine h_putF (C := RX10) (T := TX10) (N := 38) hx hb hts i_RX10 tyX10 tyX10_ok nmX10 hown hI hm_78 rfl 2 (by decide) f_17 rfl rfl hini rfl rfl rfl (Nat.le_of_ble_eq_true rfl) dX10_init_17 (fun M_106 H_107 locs_108 eM_109 hI => ?_)
  have hm_110 : M_106 60 = some (.inr (11, [.int (nI 0), .ref (ad_70 61), .ref (ad_70 62), .null, .null, .null, .null, .null, .null, .null, .null, .int (nI 0), .null, .null, .null, .int (nI 0), .null, .null, .null, .null, .null, .null, .int (nI 0), .int (nI 0), .int (nI 0), .null, .int (nI 0), .int (nI 0), .int (nI 0), .int (nI 0), .int (nI 0), .null, .null, .null, .null, .null, .null, .null])) := by rw [eM_109]; exact va_up_self _ _ _
  have hm_111 : M_106 61 = some (aI G 36 (nF (fun _ => 0))) := by rw [eM_109, va_up_ne _ _ (by decide)]; exact hm_79
  have hm_112 : M_106 62 = some (aI G 36 (nF (fun _ => 0))) := by rw [eM_109, va_up_ne _ _ (by decide)]; exact hm_77
  have fr_113 : M_106 63 = none := by rw [eM_109, va_up_ne _ _ (by decide)]; exact fr_80
  have fr_114 : M_106 64 = none := by rw [eM_109, va_up_ne _ _ (by decide)]; exact fr_81
  have fr_115 : M_106 65 = none := by rw [eM_109, va_up_ne _ _ (by decide)]; exact fr_82
  have fr_116 : M_106 66 = none := by rw [eM_109, va_up_ne _ _ (by decide)]; exact fr_83
  have fr_117 : M_106 67 = none := by rw [eM_109, va_up_ne _ _ (by decide)]; exact fr_84
  have fr_118 : M_106 68 = none := by rw [eM_109, va_up_ne _ _ (by decide)]; exact fr_85
  have fr_119 : M_106 69 = none := by rw [eM_109, va_up_ne _ _ (by decide)]; exact fr_86
  have fr_120 : M_106 70 = none := by rw [eM_109, va_up_ne _ _ (by decide)]; exact fr_87
  have fr_121 : M_106 71 = none := by rw [eM_109, va_up_ne _ _ (by decide)]; exact fr_88
  have fr_122 : M_106 72 = none := by rw [eM_109, va_up_ne _ _ (by decide)]; exact fr_89
  have fr_123 : M_106 73 = none := by rw [eM_109, va_up_ne _ _ (by decide)]; exact fr_90
  have fr_124 : M_106 74 = none := by rw [eM_109, va_up_ne _ _ (by decide)]; exact fr_91
  have fr_125 : M_106 75 = none := by rw [eM_109, va_up_ne _ _ (by decide)]; exact fr_92
  have fr_126 : M_106 76 = none := by rw [eM_109, va_up_ne _ _ (by decide)]; exact fr_93
  have fr_127 : M_106 77 = none := by rw [eM_109, va_up_ne _ _ (by decide)]; exact fr_94
  have fr_128 : M_106 78 = none := by rw [eM_109, va_up_ne _ _ (by decide)]; exact fr_95
  have fr_129 : M_106 79 = none := by rw [eM_109, va_up_ne _ _ (by decide)]; exact fr_96
  have fr_130 : M_106 80 = none := by rw [eM_109, va_up_ne _ _ (by decide)]; exact fr_97
  have fr_131 : M_106 81 = none := by rw [eM_109, va_up_ne _ _ (by decide)]; exact fr_98
  have fr_132 : M_106 82 = none := by rw [eM_109, va_up_ne _ _ (by decide)]; exact fr_99
  have fr_133 : M_106 83 = none := by rw [eM_109, va_up_ne _ _ (by decide)]; exact fr_100
  have fr_134 : M_106 84 = none := by rw [eM_109, va_up_ne _ _ (by decide)]; exact fr_101
  have fr_135 : M_106 85 = none := by rw [eM_109, va_up_ne _ _ (by decide)]; exact fr_102
  have fr_136 : M_106 86 = none := by rw [eM_109, va_up_ne _ _ (by decide)]; exact fr_103
  have fr_137 : M_106 87 = none := by rw [eM_109, va_up_ne _ _ (by decide)]; exact fr_104
  have hF_138 : ∀ j : Nat, j ≠ 61 → j ≠ 60 → j ≠ 62 → M_106 j = M j := fun j q0 q1 q2 => by rw [eM_109, va_up_ne _ _ q1]; exact hF_105 j q0 q1 q2
  clear hm_78 hm_79 hm_77 fr_80 fr_81 fr_82 fr_83 fr_84 fr_85 fr_86 fr_87 fr_88 fr_89 fr_90 fr_91 fr_92 fr_93 fr_94 fr_95 fr_96 fr_97 fr_98 fr_99 fr_100 fr_101 fr_102 fr_103 fr_104 hF_105
  refine lv_aload_n hx hb dX10_init_20 rfl (lv_at hl 0 rfl) ?_
  refine n_eqv (show Value.ref (ad 60) = .ref (ad_70 60) from by rw [hAd_76 60 (by decide), hAd_7 60 (by decide)]) ?_
  refine lv_bipush (v := nI 36) hx hb dX10_init_21 (by decide) ?_
  refine h_newa (atype := .int) (n := 36) (a0 := (36, .inl (nF (fun _ => 0)))) hx hb na_int 0 (ty := .int) rfl rfl (fun C h => by cases h) hI (ha_int 36) (by decide) (by decide) (Nat.le_of_ble_eq_true rfl) (Nat.le_of_ble_eq_true rfl) dX10_init_23 63 fr_113 (fun ad_139 M_140 H_141 hA_142 eM_143 hI => ?_)
  have hAd_145 : ∀ j : Nat, j ≠ 63 → ad_139 j = ad_70 j := fun j hj => by obtain ⟨q, e⟩ := hA_142; rw [e]; exact va_up_ne _ _ hj
  have hm_146 : M_140 63 = some (aI G 36 (nF (fun _ => 0))) := by rw [eM_143]; exact va_up_self _ _ _
  have hm_147 : M_140 60 = some (.inr (11, [.int (nI 0), .ref (ad_139 61), .ref (ad_139 62), .null, .null, .null, .null, .null, .null, .null, .null, .int (nI 0), .null, .null, .null, .int (nI 0), .null, .null, .null, .null, .null, .null, .int (nI 0), .int (nI 0), .int (nI 0), .null, .int (nI 0), .int (nI 0), .int (nI 0), .int (nI 0), .int (nI 0), .null, .null, .null, .null, .null, .null, .null])) := by rw [eM_143, va_up_ne _ _ (by decide), hm_110]; rw [hAd_145 61 (by decide), hAd_145 62 (by decide)]
  have hm_148 : M_140 61 = some (aI G 36 (nF (fun _ => 0))) := by rw [eM_143, va_up_ne _ _ (by decide), hm_111]
  have hm_149 : M_140 62 = some (aI G 36 (nF (fun _ => 0))) := by rw [eM_143, va_up_ne _ _ (by decide), hm_112]
  have fr_150 : M_140 64 = none := by rw [eM_143, va_up_ne _ _ (by decide)]; exact fr_114
  have fr_151 : M_140 65 = none := by rw [eM_143, va_up_ne _ _ (by decide)]; exact fr_115
  have fr_152 : M_140 66 = none := by rw [eM_143, va_up_ne _ _ (by decide)]; exact fr_116
  have fr_153 : M_140 67 = none := by rw [eM_143, va_up_ne _ _ (by decide)]; exact fr_117
  have fr_154 : M_140 68 = none := by rw [eM_143, va_up_ne _ _ (by decide)]; exact fr_118
  have fr_155 : M_140 69 = none := by rw [eM_143, va_up_ne _ _ (by decide)]; exact fr_119
  have fr_156 : M_140 70 = none := by rw [eM_143, va_up_ne _ _ (by decide)]; exact fr_120
  have fr_157 : M_140 71 = none := by rw [eM_143, va_up_ne _ _ (by decide)]; exact fr_121
  have fr_158 : M_140 72 = none := by rw [eM_143, va_up_ne _ _ (by decide)]; exact fr_122
  have fr_159 : M_140 73 = none := by rw [eM_143, va_up_ne _ _ (by decide)]; exact fr_123
  have fr_160 : M_140 74 = none := by rw [eM_143, va_up_ne _ _ (by decide)]; exact fr_124
  have fr_161 : M_140 75 = none := by rw [eM_143, va_up_ne _ _ (by decide)]; exact fr_125
  have fr_162 : M_140 76 = none := by rw [eM_143, va_up_ne _ _ (by decide)]; exact fr_126
  have fr_163 : M_140 77 = none := by rw [eM_143, va_up_ne _ _ (by decide)]; exact fr_127
  have fr_164 : M_140 78 = none := by rw [eM_143, va_up_ne _ _ (by decide)]; exact fr_128
  have fr_165 : M_140 79 = none := by rw [eM_143, va_up_ne _ _ (by decide)]; exact fr_129
  have fr_166 : M_140 80 = none := by rw [eM_143, va_up_ne _ _ (by decide)]; exact fr_130
  have fr_167 : M_140 81 = none := by rw [eM_143, va_up_ne _ _ (by decide)]; exact fr_131
  have fr_168 : M_140 82 = none := by rw [eM_143, va_up_ne _ _ (by decide)]; exact fr_132
  have fr_169 : M_140 83 = none := by rw [eM_143, va_up_ne _ _ (by decide)]; exact fr_133
  have fr_170 : M_140 84 = none := by rw [eM_143, va_up_ne _ _ (by decide)]; exact fr_134
  have fr_171 : M_140 85 = none := by rw [eM_143, va_up_ne _ _ (by decide)]; exact fr_135
  have fr_172 : M_140 86 = none := by rw [eM_143, va_up_ne _ _ (by decide)]; exact fr_136
  have fr_173 : M_140 87 = none := by rw [eM_143, va_up_ne _ _ (by decide)]; exact fr_137
  clear hm_110 hm_111 hm_112 fr_114 fr_115 fr_116 fr_117 fr_118 fr_119 fr_120 fr_121 fr_122 fr_123 fr_124 fr_125 fr_126 fr_127 fr_128 fr_129 fr_130 fr_131 fr_132 fr_133 fr_134 fr_135 fr_136 fr_137
  have hF_174 : ∀ j : Nat, j ≠ 61 → j ≠ 60 → j ≠ 62 → j ≠ 63 → M_140 j = M j := fun j q0 q1 q2 q3 => by rw [eM_143, va_up_ne _ _ q3]; exact hF_138 j q0 q1 q2
  clear hF_138
  refine n_eqs (show ([.ref (ad_139 63), .ref (ad_70 60)] : List Value) = [.ref (ad_139 63), .ref (ad_139 60)] from by rw [hAd_145 60 (by decide)]) ?_
  refine h_putF (C := RX10) (T := TX10) (N := 38) hx hb hts i_RX10 tyX10 tyX10_ok nmX10 hown hI hm_147 rfl 3 (by decide) f_20 rfl rfl hini rfl rfl rfl (Nat.le_of_ble_eq_true rfl) dX10_init_25 (fun M_175 H_176 locs_177 eM_178 hI => ?_)
  have hm_179 : M_175 60 = some (.inr (11, [.int (nI 0), .ref (ad_139 61), .ref (ad_139 62), .ref (ad_139 63), .null, .null, .null, .null, .null, .null, .null, .int (nI 0), .null, .null, .null, .int (nI 0), .null, .null, .null, .null, .null, .null, .int (nI 0), .int (nI 0), .int (nI 0), .null, .int (nI 0), .int (nI 0), .int (nI 0), .int (nI 0), .int (nI 0), .null, .null, .null, .null, .null, .null, .null])) := by rw [eM_178]; exact va_up_self _ _ _
  have hm_180 : M_175 61 = some (aI G 36 (nF (fun _ => 0))) := by rw [eM_178, va_up_ne _ _ (by decide)]; exact hm_148
  have hm_181 : M_175 62 = some (aI G 36 (nF (fun _ => 0))) := by rw [eM_178, va_up_ne _ _ (by decide)]; exact hm_149
  have hm_182 : M_175 63 = some (aI G 36 (nF (fun _ => 0))) := by rw [eM_178, va_up_ne _ _ (by decide)]; exact hm_146
  have fr_183 : M_175 64 = none := by rw [eM_178, va_up_ne _ _ (by decide)]; exact fr_150
  have fr_184 : M_175 65 = none := by rw [eM_178, va_up_ne _ _ (by decide)]; exact fr_151
  have fr_185 : M_175 66 = none := by rw [eM_178, va_up_ne _ _ (by decide)]; exact fr_152
  have fr_186 : M_175 67 = none := by rw [eM_178, va_up_ne _ _ (by decide)]; exact fr_153
  have fr_187 : M_175 68 = none := by rw [eM_178, va_up_ne _ _ (by decide)]; exact fr_154
  have fr_188 : M_175 69 = none := by rw [eM_178, va_up_ne _ _ (by decide)]; exact fr_155
  have fr_189 : M_175 70 = none := by rw [eM_178, va_up_ne _ _ (by decide)]; exact fr_156
  have fr_190 : M_175 71 = none := by rw [eM_178, va_up_ne _ _ (by decide)]; exact fr_157
  have fr_191 : M_175 72 = none := by rw [eM_178, va_up_ne _ _ (by decide)]; exact fr_158
  have fr_192 : M_175 73 = none := by rw [eM_178, va_up_ne _ _ (by decide)]; exact fr_159
  have fr_193 : M_175 74 = none := by rw [eM_178, va_up_ne _ _ (by decide)]; exact fr_160
  have fr_194 : M_175 75 = none := by rw [eM_178, va_up_ne _ _ (by decide)]; exact fr_161
  have fr_195 : M_175 76 = none := by rw [eM_178, va_up_ne _ _ (by decide)]; exact fr_162
  have fr_196 : M_175 77 = none := by rw [eM_178, va_up_ne _ _ (by decide)]; exact fr_163
  have fr_197 : M_175 78 = none := by rw [eM_178, va_up_ne _ _ (by decide)]; exact fr_164
  have fr_198 : M_175 79 = none := by rw [eM_178, va_up_ne _ _ (by decide)]; exact fr_165
  have fr_199 : M_175 80 = none := by rw [eM_178, va_up_ne _ _ (by decide)]; exact fr_166
  have fr_200 : M_175 81 = none := by rw [eM_178, va_up_ne _ _ (by decide)]; exact fr_167
  have fr_201 : M_175 82 = none := by rw [eM_178, va_up_ne _ _ (by decide)]; exact fr_168
  have fr_202 : M_175 83 = none := by rw [eM_178, va_up_ne _ _ (by decide)]; exact fr_169
  have fr_203 : M_175 84 = none := by rw [eM_178, va_up_ne _ _ (by decide)]; exact fr_170
  have fr_204 : M_175 85 = none := by rw [eM_178, va_up_ne _ _ (by decide)]; exact fr_171
  have fr_205 : M_175 86 = none := by rw [eM_178, va_up_ne _ _ (by decide)]; exact fr_172
  have fr_206 : M_175 87 = none := by rw [eM_178, va_up_ne _ _ (by decide)]; exact fr_173
  have hF_207 : ∀ j : Nat, j ≠ 61 → j ≠ 60 → j ≠ 62 → j ≠ 63 → M_175 j = M j := fun j q0 q1 q2 q3 => by rw [eM_178, va_up_ne _ _ q1]; exact hF_174 j q0 q1 q2 q3
  clear hm_147 hm_148 hm_149 hm_146 fr_150 fr_151 fr_152 fr_153 fr_154 fr_155 fr_156 fr_157 fr_158 fr_159 fr_160 fr_161 fr_162 fr_163 fr_164 fr_165 fr_166 fr_167 fr_168 fr_169 fr_170 fr_171 fr_172 fr_173 hF_174
  refine lv_aload_n hx hb dX10_init_28 rfl (lv_at hl 0 rfl) ?_
  refine n_eqv (show Value.ref (ad 60) = .ref (ad_139 60) from by rw [hAd_145 60 (by decide), hAd_76 60 (by decide), hAd_7 60 (by decide)]) ?_
  refine lv_bipush (v := nI 6) hx hb dX10_init_29 (by decide) ?_
  refine h_newa (atype := .boolean) (n := 6) (a0 := (6, .inl (bF (fun _ => false)))) hx hb na_boolean 1 (ty := .boolean) rfl rfl (fun C h => by cases h) hI (ha_boolean 6) (by decide) (by decide) (Nat.le_of_ble_eq_true rfl) (Nat.le_of_ble_eq_true rfl) dX10_init_31 64 fr_183 (fun ad_208 M_209 H_210 hA_211 eM_212 hI => ?_)
  have hAd_214 : ∀ j : Nat, j ≠ 64 → ad_208 j = ad_139 j := fun j hj => by obtain ⟨q, e⟩ := hA_211; rw [e]; exact va_up_ne _ _ hj
  have hm_215 : M_209 64 = some (aZ G 6 (bF (fun _ => false))) := by rw [eM_212]; exact va_up_self _ _ _
  have hm_216 : M_209 60 = some (.inr (11, [.int (nI 0), .ref (ad_208 61), .ref (ad_208 62), .ref (ad_208 63), .null, .null, .null, .null, .null, .null, .null, .int (nI 0), .null, .null, .null, .int (nI 0), .null, .null, .null, .null, .null, .null, .int (nI 0), .int (nI 0), .int (nI 0), .null, .int (nI 0), .int (nI 0), .int (nI 0), .int (nI 0), .int (nI 0), .null, .null, .null, .null, .null, .null, .null])) := by rw [eM_212, va_up_ne _ _ (by decide), hm_179]; rw [hAd_214 61 (by decide), hAd_214 62 (by decide), hAd_214 63 (by decide)]
  have hm_217 : M_209 61 = some (aI G 36 (nF (fun _ => 0))) := by rw [eM_212, va_up_ne _ _ (by decide), hm_180]
  have hm_218 : M_209 62 = some (aI G 36 (nF (fun _ => 0))) := by rw [eM_212, va_up_ne _ _ (by decide), hm_181]
  have hm_219 : M_209 63 = some (aI G 36 (nF (fun _ => 0))) := by rw [eM_212, va_up_ne _ _ (by decide), hm_182]
  have fr_220 : M_209 65 = none := by rw [eM_212, va_up_ne _ _ (by decide)]; exact fr_184
  have fr_221 : M_209 66 = none := by rw [eM_212, va_up_ne _ _ (by decide)]; exact fr_185
  have fr_222 : M_209 67 = none := by rw [eM_212, va_up_ne _ _ (by decide)]; exact fr_186
  have fr_223 : M_209 68 = none := by rw [eM_212, va_up_ne _ _ (by decide)]; exact fr_187
  have fr_224 : M_209 69 = none := by rw [eM_212, va_up_ne _ _ (by decide)]; exact fr_188
  have fr_225 : M_209 70 = none := by rw [eM_212, va_up_ne _ _ (by decide)]; exact fr_189
  have fr_226 : M_209 71 = none := by rw [eM_212, va_up_ne _ _ (by decide)]; exact fr_190
  have fr_227 : M_209 72 = none := by rw [eM_212, va_up_ne _ _ (by decide)]; exact fr_191
  have fr_228 : M_209 73 = none := by rw [eM_212, va_up_ne _ _ (by decide)]; exact fr_192
  have fr_229 : M_209 74 = none := by rw [eM_212, va_up_ne _ _ (by decide)]; exact fr_193
  have fr_230 : M_209 75 = none := by rw [eM_212, va_up_ne _ _ (by decide)]; exact fr_194
  have fr_231 : M_209 76 = none := by rw [eM_212, va_up_ne _ _ (by decide)]; exact fr_195
  have fr_232 : M_209 77 = none := by rw [eM_212, va_up_ne _ _ (by decide)]; exact fr_196
  have fr_233 : M_209 78 = none := by rw [eM_212, va_up_ne _ _ (by decide)]; exact fr_197
  have fr_234 : M_209 79 = none := by rw [eM_212, va_up_ne _ _ (by decide)]; exact fr_198
  have fr_235 : M_209 80 = none := by rw [eM_212, va_up_ne _ _ (by decide)]; exact fr_199
  have fr_236 : M_209 81 = none := by rw [eM_212, va_up_ne _ _ (by decide)]; exact fr_200
  have fr_237 : M_209 82 = none := by rw [eM_212, va_up_ne _ _ (by decide)]; exact fr_201
  have fr_238 : M_209 83 = none := by rw [eM_212, va_up_ne _ _ (by decide)]; exact fr_202
  have fr_239 : M_209 84 = none := by rw [eM_212, va_up_ne _ _ (by decide)]; exact fr_203
  have fr_240 : M_209 85 = none := by rw [eM_212, va_up_ne _ _ (by decide)]; exact fr_204
  have fr_241 : M_209 86 = none := by rw [eM_212, va_up_ne _ _ (by decide)]; exact fr_205
  have fr_242 : M_209 87 = none := by rw [eM_212, va_up_ne _ _ (by decide)]; exact fr_206
  clear hm_179 hm_180 hm_181 hm_182 fr_184 fr_185 fr_186 fr_187 fr_188 fr_189 fr_190 fr_191 fr_192 fr_193 fr_194 fr_195 fr_196 fr_197 fr_198 fr_199 fr_200 fr_201 fr_202 fr_203 fr_204 fr_205 fr_206
  have hF_243 : ∀ j : Nat, j ≠ 61 → j ≠ 60 → j ≠ 62 → j ≠ 63 → j ≠ 64 → M_209 j = M j := fun j q0 q1 q2 q3 q4 => by rw [eM_212, va_up_ne _ _ q4]; exact hF_207 j q0 q1 q2 q3
  clear hF_207
  refine n_eqs (show ([.ref (ad_208 64), .ref (ad_139 60)] : List Value) = [.ref (ad_208 64), .ref (ad_208 60)] from by rw [hAd_214 60 (by decide)]) ?_
  refine h_putF (C := RX10) (T := TX10) (N := 38) hx hb hts i_RX10 tyX10 tyX10_ok nmX10 hown hI hm_216 rfl 4 (by decide) f_23 rfl rfl hini rfl rfl rfl (Nat.le_of_ble_eq_true rfl) dX10_init_33 (fun M_244 H_245 locs_246 eM_247 hI => ?_)
  have hm_248 : M_244 60 = some (.inr (11, [.int (nI 0), .ref (ad_208 61), .ref (ad_208 62), .ref (ad_208 63), .ref (ad_208 64), .null, .null, .null, .null, .null, .null, .int (nI 0), .null, .null, .null, .int (nI 0), .null, .null, .null, .null, .null, .null, .int (nI 0), .int (nI 0), .int (nI 0), .null, .int (nI 0), .int (nI 0), .int (nI 0), .int (nI 0), .int (nI 0), .null, .null, .null, .null, .null, .null, .null])) := by rw [eM_247]; exact va_up_self _ _ _
  have hm_249 : M_244 61 = some (aI G 36 (nF (fun _ => 0))) := by rw [eM_247, va_up_ne _ _ (by decide)]; exact hm_217
  have hm_250 : M_244 62 = some (aI G 36 (nF (fun _ => 0))) := by rw [eM_247, va_up_ne _ _ (by decide)]; exact hm_218
  have hm_251 : M_244 63 = some (aI G 36 (nF (fun _ => 0))) := by rw [eM_247, va_up_ne _ _ (by decide)]; exact hm_219
  have hm_252 : M_244 64 = some (aZ G 6 (bF (fun _ => false))) := by rw [eM_247, va_up_ne _ _ (by decide)]; exact hm_215
  have fr_253 : M_244 65 = none := by rw [eM_247, va_up_ne _ _ (by decide)]; exact fr_220
  have fr_254 : M_244 66 = none := by rw [eM_247, va_up_ne _ _ (by decide)]; exact fr_221
  have fr_255 : M_244 67 = none := by rw [eM_247, va_up_ne _ _ (by decide)]; exact fr_222
  have fr_256 : M_244 68 = none := by rw [eM_247, va_up_ne _ _ (by decide)]; exact fr_223
  have fr_257 : M_244 69 = none := by rw [eM_247, va_up_ne _ _ (by decide)]; exact fr_224
  have fr_258 : M_244 70 = none := by rw [eM_247, va_up_ne _ _ (by decide)]; exact fr_225
  have fr_259 : M_244 71 = none := by rw [eM_247, va_up_ne _ _ (by decide)]; exact fr_226
  have fr_260 : M_244 72 = none := by rw [eM_247, va_up_ne _ _ (by decide)]; exact fr_227
  have fr_261 : M_244 73 = none := by rw [eM_247, va_up_ne _ _ (by decide)]; exact fr_228
  have fr_262 : M_244 74 = none := by rw [eM_247, va_up_ne _ _ (by decide)]; exact fr_229
  have fr_263 : M_244 75 = none := by rw [eM_247, va_up_ne _ _ (by decide)]; exact fr_230
  have fr_264 : M_244 76 = none := by rw [eM_247, va_up_ne _ _ (by decide)]; exact fr_231
  have fr_265 : M_244 77 = none := by rw [eM_247, va_up_ne _ _ (by decide)]; exact fr_232
  have fr_266 : M_244 78 = none := by rw [eM_247, va_up_ne _ _ (by decide)]; exact fr_233
  have fr_267 : M_244 79 = none := by rw [eM_247, va_up_ne _ _ (by decide)]; exact fr_234
  have fr_268 : M_244 80 = none := by rw [eM_247, va_up_ne _ _ (by decide)]; exact fr_235
  have fr_269 : M_244 81 = none := by rw [eM_247, va_up_ne _ _ (by decide)]; exact fr_236
  have fr_270 : M_244 82 = none := by rw [eM_247, va_up_ne _ _ (by decide)]; exact fr_237
  have fr_271 : M_244 83 = none := by rw [eM_247, va_up_ne _ _ (by decide)]; exact fr_238
  have fr_272 : M_244 84 = none := by rw [eM_247, va_up_ne _ _ (by decide)]; exact fr_239
  have fr_273 : M_244 85 = none := by rw [eM_247, va_up_ne _ _ (by decide)]; exact fr_240
  have fr_274 : M_244 86 = none := by rw [eM_247, va_up_ne _ _ (by decide)]; exact fr_241
  have fr_275 : M_244 87 = none := by rw [eM_247, va_up_ne _ _ (by decide)]; exact fr_242
  have hF_276 : ∀ j : Nat, j ≠ 61 → j ≠ 60 → j ≠ 62 → j ≠ 63 → j ≠ 64 → M_244 j = M j := fun j q0 q1 q2 q3 q4 => by rw [eM_247, va_up_ne _ _ q1]; exact hF_243 j q0 q1 q2 q3 q4
  clear hm_216 hm_217 hm_218 hm_219 hm_215 fr_220 fr_221 fr_222 fr_223 fr_224 fr_225 fr_226 fr_227 fr_228 fr_229 fr_230 fr_231 fr_232 fr_233 fr_234 fr_235 fr_236 fr_237 fr_238 fr_239 fr_240 fr_241 fr_242 hF_243
  refine lv_aload_n hx hb dX10_init_36 rfl (lv_at hl 0 rfl) ?_
  refine n_eqv (show Value.ref (ad 60) = .ref (ad_208 60) from by rw [hAd_214 60 (by decide), hAd_145 60 (by decide), hAd_76 60 (by decide), hAd_7 60 (by decide)]) ?_
  refine lv_bipush (v := nI 120) hx hb dX10_init_37 (by decide) ?_
  refine h_newa (atype := .int) (n := 120) (a0 := (120, .inl (nF (fun _ => 0)))) hx hb na_int 0 (ty := .int) rfl rfl (fun C h => by cases h) hI (ha_int 120) (by decide) (by decide) (Nat.le_of_ble_eq_true rfl) (Nat.le_of_ble_eq_true rfl) dX10_init_39 65 fr_253 (fun ad_277 M_278 H_279 hA_280 eM_281 hI => ?_)
  have hAd_283 : ∀ j : Nat, j ≠ 65 → ad_277 j = ad_208 j := fun j hj => by obtain ⟨q, e⟩ := hA_280; rw [e]; exact va_up_ne _ _ hj
  have hm_284 : M_278 65 = some (aI G 120 (nF (fun _ => 0))) := by rw [eM_281]; exact va_up_self _ _ _
  have hm_285 : M_278 60 = some (.inr (11, [.int (nI 0), .ref (ad_277 61), .ref (ad_277 62), .ref (ad_277 63), .ref (ad_277 64), .null, .null, .null, .null, .null, .null, .int (nI 0), .null, .null, .null, .int (nI 0), .null, .null, .null, .null, .null, .null, .int (nI 0), .int (nI 0), .int (nI 0), .null, .int (nI 0), .int (nI 0), .int (nI 0), .int (nI 0), .int (nI 0), .null, .null, .null, .null, .null, .null, .null])) := by rw [eM_281, va_up_ne _ _ (by decide), hm_248]; rw [hAd_283 61 (by decide), hAd_283 62 (by decide), hAd_283 63 (by decide), hAd_283 64 (by decide)]
  have hm_286 : M_278 61 = some (aI G 36 (nF (fun _ => 0))) := by rw [eM_281, va_up_ne _ _ (by decide), hm_249]
  have hm_287 : M_278 62 = some (aI G 36 (nF (fun _ => 0))) := by rw [eM_281, va_up_ne _ _ (by decide), hm_250]
  have hm_288 : M_278 63 = some (aI G 36 (nF (fun _ => 0))) := by rw [eM_281, va_up_ne _ _ (by decide), hm_251]
  have hm_289 : M_278 64 = some (aZ G 6 (bF (fun _ => false))) := by rw [eM_281, va_up_ne _ _ (by decide), hm_252]
  have fr_290 : M_278 66 = none := by rw [eM_281, va_up_ne _ _ (by decide)]; exact fr_254
  have fr_291 : M_278 67 = none := by rw [eM_281, va_up_ne _ _ (by decide)]; exact fr_255
  have fr_292 : M_278 68 = none := by rw [eM_281, va_up_ne _ _ (by decide)]; exact fr_256
  have fr_293 : M_278 69 = none := by rw [eM_281, va_up_ne _ _ (by decide)]; exact fr_257
  have fr_294 : M_278 70 = none := by rw [eM_281, va_up_ne _ _ (by decide)]; exact fr_258
  have fr_295 : M_278 71 = none := by rw [eM_281, va_up_ne _ _ (by decide)]; exact fr_259
  have fr_296 : M_278 72 = none := by rw [eM_281, va_up_ne _ _ (by decide)]; exact fr_260
  have fr_297 : M_278 73 = none := by rw [eM_281, va_up_ne _ _ (by decide)]; exact fr_261
  have fr_298 : M_278 74 = none := by rw [eM_281, va_up_ne _ _ (by decide)]; exact fr_262
  have fr_299 : M_278 75 = none := by rw [eM_281, va_up_ne _ _ (by decide)]; exact fr_263
  have fr_300 : M_278 76 = none := by rw [eM_281, va_up_ne _ _ (by decide)]; exact fr_264
  have fr_301 : M_278 77 = none := by rw [eM_281, va_up_ne _ _ (by decide)]; exact fr_265
  have fr_302 : M_278 78 = none := by rw [eM_281, va_up_ne _ _ (by decide)]; exact fr_266
  have fr_303 : M_278 79 = none := by rw [eM_281, va_up_ne _ _ (by decide)]; exact fr_267
  have fr_304 : M_278 80 = none := by rw [eM_281, va_up_ne _ _ (by decide)]; exact fr_268
  have fr_305 : M_278 81 = none := by rw [eM_281, va_up_ne _ _ (by decide)]; exact fr_269
  have fr_306 : M_278 82 = none := by rw [eM_281, va_up_ne _ _ (by decide)]; exact fr_270
  have fr_307 : M_278 83 = none := by rw [eM_281, va_up_ne _ _ (by decide)]; exact fr_271
  have fr_308 : M_278 84 = none := by rw [eM_281, va_up_ne _ _ (by decide)]; exact fr_272
  have fr_309 : M_278 85 = none := by rw [eM_281, va_up_ne _ _ (by decide)]; exact fr_273
  have fr_310 : M_278 86 = none := by rw [eM_281, va_up_ne _ _ (by decide)]; exact fr_274
  have fr_311 : M_278 87 = none := by rw [eM_281, va_up_ne _ _ (by decide)]; exact fr_275
  clear hm_248 hm_249 hm_250 hm_251 hm_252 fr_254 fr_255 fr_256 fr_257 fr_258 fr_259 fr_260 fr_261 fr_262 fr_263 fr_264 fr_265 fr_266 fr_267 fr_268 fr_269 fr_270 fr_271 fr_272 fr_273 fr_274 fr_275
  have hF_312 : ∀ j : Nat, j ≠ 61 → j ≠ 60 → j ≠ 62 → j ≠ 63 → j ≠ 64 → j ≠ 65 → M_278 j = M j := fun j q0 q1 q2 q3 q4 q5 => by rw [eM_281, va_up_ne _ _ q5]; exact hF_276 j q0 q1 q2 q3 q4
  clear hF_276
  refine n_eqs (show ([.ref (ad_277 65), .ref (ad_208 60)] : List Value) = [.ref (ad_277 65), .ref (ad_277 60)] from by rw [hAd_283 60 (by decide)]) ?_
  refine h_putF (C := RX10) (T := TX10) (N := 38) hx hb hts i_RX10 tyX10 tyX10_ok nmX10 hown hI hm_285 rfl 5 (by decide) f_27 rfl rfl hini rfl rfl rfl (Nat.le_of_ble_eq_true rfl) dX10_init_41 (fun M_313 H_314 locs_315 eM_316 hI => ?_)
  have hm_317 : M_313 60 = some (.inr (11, [.int (nI 0), .ref (ad_277 61), .ref (ad_277 62), .ref (ad_277 63), .ref (ad_277 64), .ref (ad_277 65), .null, .null, .null, .null, .null, .int (nI 0), .null, .null, .null, .int (nI 0), .null, .null, .null, .null, .null, .null, .int (nI 0), .int (nI 0), .int (nI 0), .null, .int (nI 0), .int (nI 0), .int (nI 0), .int (nI 0), .int (nI 0), .null, .null, .null, .null, .null, .null, .null])) := by rw [eM_316]; exact va_up_self _ _ _
  have hm_318 : M_313 61 = some (aI G 36 (nF (fun _ => 0))) := by rw [eM_316, va_up_ne _ _ (by decide)]; exact hm_286
  have hm_319 : M_313 62 = some (aI G 36 (nF (fun _ => 0))) := by rw [eM_316, va_up_ne _ _ (by decide)]; exact hm_287
  have hm_320 : M_313 63 = some (aI G 36 (nF (fun _ => 0))) := by rw [eM_316, va_up_ne _ _ (by decide)]; exact hm_288
  have hm_321 : M_313 64 = some (aZ G 6 (bF (fun _ => false))) := by rw [eM_316, va_up_ne _ _ (by decide)]; exact hm_289
  have hm_322 : M_313 65 = some (aI G 120 (nF (fun _ => 0))) := by rw [eM_316, va_up_ne _ _ (by decide)]; exact hm_284
  have fr_323 : M_313 66 = none := by rw [eM_316, va_up_ne _ _ (by decide)]; exact fr_290
  have fr_324 : M_313 67 = none := by rw [eM_316, va_up_ne _ _ (by decide)]; exact fr_291
  have fr_325 : M_313 68 = none := by rw [eM_316, va_up_ne _ _ (by decide)]; exact fr_292
  have fr_326 : M_313 69 = none := by rw [eM_316, va_up_ne _ _ (by decide)]; exact fr_293
  have fr_327 : M_313 70 = none := by rw [eM_316, va_up_ne _ _ (by decide)]; exact fr_294
  have fr_328 : M_313 71 = none := by rw [eM_316, va_up_ne _ _ (by decide)]; exact fr_295
  have fr_329 : M_313 72 = none := by rw [eM_316, va_up_ne _ _ (by decide)]; exact fr_296
  have fr_330 : M_313 73 = none := by rw [eM_316, va_up_ne _ _ (by decide)]; exact fr_297
  have fr_331 : M_313 74 = none := by rw [eM_316, va_up_ne _ _ (by decide)]; exact fr_298
  have fr_332 : M_313 75 = none := by rw [eM_316, va_up_ne _ _ (by decide)]; exact fr_299
  have fr_333 : M_313 76 = none := by rw [eM_316, va_up_ne _ _ (by decide)]; exact fr_300
  have fr_334 : M_313 77 = none := by rw [eM_316, va_up_ne _ _ (by decide)]; exact fr_301
  have fr_335 : M_313 78 = none := by rw [eM_316, va_up_ne _ _ (by decide)]; exact fr_302
  have fr_336 : M_313 79 = none := by rw [eM_316, va_up_ne _ _ (by decide)]; exact fr_303
  have fr_337 : M_313 80 = none := by rw [eM_316, va_up_ne _ _ (by decide)]; exact fr_304
  have fr_338 : M_313 81 = none := by rw [eM_316, va_up_ne _ _ (by decide)]; exact fr_305
  have fr_339 : M_313 82 = none := by rw [eM_316, va_up_ne _ _ (by decide)]; exact fr_306
  have fr_340 : M_313 83 = none := by rw [eM_316, va_up_ne _ _ (by decide)]; exact fr_307
  have fr_341 : M_313 84 = none := by rw [eM_316, va_up_ne _ _ (by decide)]; exact fr_308
  have fr_342 : M_313 85 = none := by rw [eM_316, va_up_ne _ _ (by decide)]; exact fr_309
  have fr_343 : M_313 86 = none := by rw [eM_316, va_up_ne _ _ (by decide)]; exact fr_310
  have fr_344 : M_313 87 = none := by rw [eM_316, va_up_ne _ _ (by decide)]; exact fr_311
  have hF_345 : ∀ j : Nat, j ≠ 61 → j ≠ 60 → j ≠ 62 → j ≠ 63 → j ≠ 64 → j ≠ 65 → M_313 j = M j := fun j q0 q1 q2 q3 q4 q5 => by rw [eM_316, va_up_ne _ _ q1]; exact hF_312 j q0 q1 q2 q3 q4 q5
  clear hm_285 hm_286 hm_287 hm_288 hm_289 hm_284 fr_290 fr_291 fr_292 fr_293 fr_294 fr_295 fr_296 fr_297 fr_298 fr_299 fr_300 fr_301 fr_302 fr_303 fr_304 fr_305 fr_306 fr_307 fr_308 fr_309 fr_310 fr_311 hF_312
  refine lv_aload_n hx hb dX10_init_44 rfl (lv_at hl 0 rfl) ?_
  refine n_eqv (show Value.ref (ad 60) = .ref (ad_277 60) from by rw [hAd_283 60 (by decide), hAd_214 60 (by decide), hAd_145 60 (by decide), hAd_76 60 (by decide), hAd_7 60 (by decide)]) ?_
  refine lv_bipush (v := nI 120) hx hb dX10_init_45 (by decide) ?_
  refine h_newa (atype := .int) (n := 120) (a0 := (120, .inl (nF (fun _ => 0)))) hx hb na_int 0 (ty := .int) rfl rfl (fun C h => by cases h) hI (ha_int 120) (by decide) (by decide) (Nat.le_of_ble_eq_true rfl) (Nat.le_of_ble_eq_true rfl) dX10_init_47 66 fr_323 (fun ad_346 M_347 H_348 hA_349 eM_350 hI => ?_)
  have hAd_352 : ∀ j : Nat, j ≠ 66 → ad_346 j = ad_277 j := fun j hj => by obtain ⟨q, e⟩ := hA_349; rw [e]; exact va_up_ne _ _ hj
  have hm_353 : M_347 66 = some (aI G 120 (nF (fun _ => 0))) := by rw [eM_350]; exact va_up_self _ _ _
  have hm_354 : M_347 60 = some (.inr (11, [.int (nI 0), .ref (ad_346 61), .ref (ad_346 62), .ref (ad_346 63), .ref (ad_346 64), .ref (ad_346 65), .null, .null, .null, .null, .null, .int (nI 0), .null, .null, .null, .int (nI 0), .null, .null, .null, .null, .null, .null, .int (nI 0), .int (nI 0), .int (nI 0), .null, .int (nI 0), .int (nI 0), .int (nI 0), .int (nI 0), .int (nI 0), .null, .null, .null, .null, .null, .null, .null])) := by rw [eM_350, va_up_ne _ _ (by decide), hm_317]; rw [hAd_352 61 (by decide), hAd_352 62 (by decide), hAd_352 63 (by decide), hAd_352 64 (by decide), hAd_352 65 (by decide)]
  have hm_355 : M_347 61 = some (aI G 36 (nF (fun _ => 0))) := by rw [eM_350, va_up_ne _ _ (by decide), hm_318]
  have hm_356 : M_347 62 = some (aI G 36 (nF (fun _ => 0))) := by rw [eM_350, va_up_ne _ _ (by decide), hm_319]
  have hm_357 : M_347 63 = some (aI G 36 (nF (fun _ => 0))) := by rw [eM_350, va_up_ne _ _ (by decide), hm_320]
  have hm_358 : M_347 64 = some (aZ G 6 (bF (fun _ => false))) := by rw [eM_350, va_up_ne _ _ (by decide), hm_321]
  have hm_359 : M_347 65 = some (aI G 120 (nF (fun _ => 0))) := by rw [eM_350, va_up_ne _ _ (by decide), hm_322]
  have fr_360 : M_347 67 = none := by rw [eM_350, va_up_ne _ _ (by decide)]; exact fr_324
  have fr_361 : M_347 68 = none := by rw [eM_350, va_up_ne _ _ (by decide)]; exact fr_325
  have fr_362 : M_347 69 = none := by rw [eM_350, va_up_ne _ _ (by decide)]; exact fr_326
  have fr_363 : M_347 70 = none := by rw [eM_350, va_up_ne _ _ (by decide)]; exact fr_327
  have fr_364 : M_347 71 = none := by rw [eM_350, va_up_ne _ _ (by decide)]; exact fr_328
  have fr_365 : M_347 72 = none := by rw [eM_350, va_up_ne _ _ (by decide)]; exact fr_329
  have fr_366 : M_347 73 = none := by rw [eM_350, va_up_ne _ _ (by decide)]; exact fr_330
  have fr_367 : M_347 74 = none := by rw [eM_350, va_up_ne _ _ (by decide)]; exact fr_331
  have fr_368 : M_347 75 = none := by rw [eM_350, va_up_ne _ _ (by decide)]; exact fr_332
  have fr_369 : M_347 76 = none := by rw [eM_350, va_up_ne _ _ (by decide)]; exact fr_333
  have fr_370 : M_347 77 = none := by rw [eM_350, va_up_ne _ _ (by decide)]; exact fr_334
  have fr_371 : M_347 78 = none := by rw [eM_350, va_up_ne _ _ (by decide)]; exact fr_335
  have fr_372 : M_347 79 = none := by rw [eM_350, va_up_ne _ _ (by decide)]; exact fr_336
  have fr_373 : M_347 80 = none := by rw [eM_350, va_up_ne _ _ (by decide)]; exact fr_337
  have fr_374 : M_347 81 = none := by rw [eM_350, va_up_ne _ _ (by decide)]; exact fr_338
  have fr_375 : M_347 82 = none := by rw [eM_350, va_up_ne _ _ (by decide)]; exact fr_339
  have fr_376 : M_347 83 = none := by rw [eM_350, va_up_ne _ _ (by decide)]; exact fr_340
  have fr_377 : M_347 84 = none := by rw [eM_350, va_up_ne _ _ (by decide)]; exact fr_341
  have fr_378 : M_347 85 = none := by rw [eM_350, va_up_ne _ _ (by decide)]; exact fr_342
  have fr_379 : M_347 86 = none := by rw [eM_350, va_up_ne _ _ (by decide)]; exact fr_343
  have fr_380 : M_347 87 = none := by rw [eM_350, va_up_ne _ _ (by decide)]; exact fr_344
  clear hm_317 hm_318 hm_319 hm_320 hm_321 hm_322 fr_324 fr_325 fr_326 fr_327 fr_328 fr_329 fr_330 fr_331 fr_332 fr_333 fr_334 fr_335 fr_336 fr_337 fr_338 fr_339 fr_340 fr_341 fr_342 fr_343 fr_344
  have hF_381 : ∀ j : Nat, j ≠ 61 → j ≠ 60 → j ≠ 62 → j ≠ 63 → j ≠ 64 → j ≠ 65 → j ≠ 66 → M_347 j = M j := fun j q0 q1 q2 q3 q4 q5 q6 => by rw [eM_350, va_up_ne _ _ q6]; exact hF_345 j q0 q1 q2 q3 q4 q5
  clear hF_345
  refine n_eqs (show ([.ref (ad_346 66), .ref (ad_277 60)] : List Value) = [.ref (ad_346 66), .ref (ad_346 60)] from by rw [hAd_352 60 (by decide)]) ?_
  refine h_putF (C := RX10) (T := TX10) (N := 38) hx hb hts i_RX10 tyX10 tyX10_ok nmX10 hown hI hm_354 rfl 6 (by decide) f_30 rfl rfl hini rfl rfl rfl (Nat.le_of_ble_eq_true rfl) dX10_init_49 (fun M_382 H_383 locs_384 eM_385 hI => ?_)
  have hm_386 : M_382 60 = some (.inr (11, [.int (nI 0), .ref (ad_346 61), .ref (ad_346 62), .ref (ad_346 63), .ref (ad_346 64), .ref (ad_346 65), .ref (ad_346 66), .null, .null, .null, .null, .int (nI 0), .null, .null, .null, .int (nI 0), .null, .null, .null, .null, .null, .null, .int (nI 0), .int (nI 0), .int (nI 0), .null, .int (nI 0), .int (nI 0), .int (nI 0), .int (nI 0), .int (nI 0), .null, .null, .null, .null, .null, .null, .null])) := by rw [eM_385]; exact va_up_self _ _ _
  have hm_387 : M_382 61 = some (aI G 36 (nF (fun _ => 0))) := by rw [eM_385, va_up_ne _ _ (by decide)]; exact hm_355
  have hm_388 : M_382 62 = some (aI G 36 (nF (fun _ => 0))) := by rw [eM_385, va_up_ne _ _ (by decide)]; exact hm_356
  have hm_389 : M_382 63 = some (aI G 36 (nF (fun _ => 0))) := by rw [eM_385, va_up_ne _ _ (by decide)]; exact hm_357
  have hm_390 : M_382 64 = some (aZ G 6 (bF (fun _ => false))) := by rw [eM_385, va_up_ne _ _ (by decide)]; exact hm_358
  have hm_391 : M_382 65 = some (aI G 120 (nF (fun _ => 0))) := by rw [eM_385, va_up_ne _ _ (by decide)]; exact hm_359
  have hm_392 : M_382 66 = some (aI G 120 (nF (fun _ => 0))) := by rw [eM_385, va_up_ne _ _ (by decide)]; exact hm_353
  have fr_393 : M_382 67 = none := by rw [eM_385, va_up_ne _ _ (by decide)]; exact fr_360
  have fr_394 : M_382 68 = none := by rw [eM_385, va_up_ne _ _ (by decide)]; exact fr_361
  have fr_395 : M_382 69 = none := by rw [eM_385, va_up_ne _ _ (by decide)]; exact fr_362
  have fr_396 : M_382 70 = none := by rw [eM_385, va_up_ne _ _ (by decide)]; exact fr_363
  have fr_397 : M_382 71 = none := by rw [eM_385, va_up_ne _ _ (by decide)]; exact fr_364
  have fr_398 : M_382 72 = none := by rw [eM_385, va_up_ne _ _ (by decide)]; exact fr_365
  have fr_399 : M_382 73 = none := by rw [eM_385, va_up_ne _ _ (by decide)]; exact fr_366
  have fr_400 : M_382 74 = none := by rw [eM_385, va_up_ne _ _ (by decide)]; exact fr_367
  have fr_401 : M_382 75 = none := by rw [eM_385, va_up_ne _ _ (by decide)]; exact fr_368
  have fr_402 : M_382 76 = none := by rw [eM_385, va_up_ne _ _ (by decide)]; exact fr_369
  have fr_403 : M_382 77 = none := by rw [eM_385, va_up_ne _ _ (by decide)]; exact fr_370
  have fr_404 : M_382 78 = none := by rw [eM_385, va_up_ne _ _ (by decide)]; exact fr_371
  have fr_405 : M_382 79 = none := by rw [eM_385, va_up_ne _ _ (by decide)]; exact fr_372
  have fr_406 : M_382 80 = none := by rw [eM_385, va_up_ne _ _ (by decide)]; exact fr_373
  have fr_407 : M_382 81 = none := by rw [eM_385, va_up_ne _ _ (by decide)]; exact fr_374
  have fr_408 : M_382 82 = none := by rw [eM_385, va_up_ne _ _ (by decide)]; exact fr_375
  have fr_409 : M_382 83 = none := by rw [eM_385, va_up_ne _ _ (by decide)]; exact fr_376
  have fr_410 : M_382 84 = none := by rw [eM_385, va_up_ne _ _ (by decide)]; exact fr_377
  have fr_411 : M_382 85 = none := by rw [eM_385, va_up_ne _ _ (by decide)]; exact fr_378
  have fr_412 : M_382 86 = none := by rw [eM_385, va_up_ne _ _ (by decide)]; exact fr_379
  have fr_413 : M_382 87 = none := by rw [eM_385, va_up_ne _ _ (by decide)]; exact fr_380
  have hF_414 : ∀ j : Nat, j ≠ 61 → j ≠ 60 → j ≠ 62 → j ≠ 63 → j ≠ 64 → j ≠ 65 → j ≠ 66 → M_382 j = M j := fun j q0 q1 q2 q3 q4 q5 q6 => by rw [eM_385, va_up_ne _ _ q1]; exact hF_381 j q0 q1 q2 q3 q4 q5 q6
  clear hm_354 hm_355 hm_356 hm_357 hm_358 hm_359 hm_353 fr_360 fr_361 fr_362 fr_363 fr_364 fr_365 fr_366 fr_367 fr_368 fr_369 fr_370 fr_371 fr_372 fr_373 fr_374 fr_375 fr_376 fr_377 fr_378 fr_379 fr_380 hF_381
  refine lv_aload_n hx hb dX10_init_52 rfl (lv_at hl 0 rfl) ?_
  refine n_eqv (show Value.ref (ad 60) = .ref (ad_346 60) from by rw [hAd_352 60 (by decide), hAd_283 60 (by decide), hAd_214 60 (by decide), hAd_145 60 (by decide), hAd_76 60 (by decide), hAd_7 60 (by decide)]) ?_
  refine lv_bipush (v := nI 120) hx hb dX10_init_53 (by decide) ?_
  refine h_newa (atype := .int) (n := 120) (a0 := (120, .inl (nF (fun _ => 0)))) hx hb na_int 0 (ty := .int) rfl rfl (fun C h => by cases h) hI (ha_int 120) (by decide) (by decide) (Nat.le_of_ble_eq_true rfl) (Nat.le_of_ble_eq_true rfl) dX10_init_55 67 fr_393 (fun ad_415 M_416 H_417 hA_418 eM_419 hI => ?_)
  have hAd_421 : ∀ j : Nat, j ≠ 67 → ad_415 j = ad_346 j := fun j hj => by obtain ⟨q, e⟩ := hA_418; rw [e]; exact va_up_ne _ _ hj
  have hm_422 : M_416 67 = some (aI G 120 (nF (fun _ => 0))) := by rw [eM_419]; exact va_up_self _ _ _
  have hm_423 : M_416 60 = some (.inr (11, [.int (nI 0), .ref (ad_415 61), .ref (ad_415 62), .ref (ad_415 63), .ref (ad_415 64), .ref (ad_415 65), .ref (ad_415 66), .null, .null, .null, .null, .int (nI 0), .null, .null, .null, .int (nI 0), .null, .null, .null, .null, .null, .null, .int (nI 0), .int (nI 0), .int (nI 0), .null, .int (nI 0), .int (nI 0), .int (nI 0), .int (nI 0), .int (nI 0), .null, .null, .null, .null, .null, .null, .null])) := by rw [eM_419, va_up_ne _ _ (by decide), hm_386]; rw [hAd_421 61 (by decide), hAd_421 62 (by decide), hAd_421 63 (by decide), hAd_421 64 (by decide), hAd_421 65 (by decide), hAd_421 66 (by decide)]
  have hm_424 : M_416 61 = some (aI G 36 (nF (fun _ => 0))) := by rw [eM_419, va_up_ne _ _ (by decide), hm_387]
  have hm_425 : M_416 62 = some (aI G 36 (nF (fun _ => 0))) := by rw [eM_419, va_up_ne _ _ (by decide), hm_388]
  have hm_426 : M_416 63 = some (aI G 36 (nF (fun _ => 0))) := by rw [eM_419, va_up_ne _ _ (by decide), hm_389]
  have hm_427 : M_416 64 = some (aZ G 6 (bF (fun _ => false))) := by rw [eM_419, va_up_ne _ _ (by decide), hm_390]
  have hm_428 : M_416 65 = some (aI G 120 (nF (fun _ => 0))) := by rw [eM_419, va_up_ne _ _ (by decide), hm_391]
  have hm_429 : M_416 66 = some (aI G 120 (nF (fun _ => 0))) := by rw [eM_419, va_up_ne _ _ (by decide), hm_392]
  have fr_430 : M_416 68 = none := by rw [eM_419, va_up_ne _ _ (by decide)]; exact fr_394
  have fr_431 : M_416 69 = none := by rw [eM_419, va_up_ne _ _ (by decide)]; exact fr_395
  have fr_432 : M_416 70 = none := by rw [eM_419, va_up_ne _ _ (by decide)]; exact fr_396
  have fr_433 : M_416 71 = none := by rw [eM_419, va_up_ne _ _ (by decide)]; exact fr_397
  have fr_434 : M_416 72 = none := by rw [eM_419, va_up_ne _ _ (by decide)]; exact fr_398
  have fr_435 : M_416 73 = none := by rw [eM_419, va_up_ne _ _ (by decide)]; exact fr_399
  have fr_436 : M_416 74 = none := by rw [eM_419, va_up_ne _ _ (by decide)]; exact fr_400
  have fr_437 : M_416 75 = none := by rw [eM_419, va_up_ne _ _ (by decide)]; exact fr_401
  have fr_438 : M_416 76 = none := by rw [eM_419, va_up_ne _ _ (by decide)]; exact fr_402
  have fr_439 : M_416 77 = none := by rw [eM_419, va_up_ne _ _ (by decide)]; exact fr_403
  have fr_440 : M_416 78 = none := by rw [eM_419, va_up_ne _ _ (by decide)]; exact fr_404
  have fr_441 : M_416 79 = none := by rw [eM_419, va_up_ne _ _ (by decide)]; exact fr_405
  have fr_442 : M_416 80 = none := by rw [eM_419, va_up_ne _ _ (by decide)]; exact fr_406
  have fr_443 : M_416 81 = none := by rw [eM_419, va_up_ne _ _ (by decide)]; exact fr_407
  have fr_444 : M_416 82 = none := by rw [eM_419, va_up_ne _ _ (by decide)]; exact fr_408
  have fr_445 : M_416 83 = none := by rw [eM_419, va_up_ne _ _ (by decide)]; exact fr_409
  have fr_446 : M_416 84 = none := by rw [eM_419, va_up_ne _ _ (by decide)]; exact fr_410
  have fr_447 : M_416 85 = none := by rw [eM_419, va_up_ne _ _ (by decide)]; exact fr_411
  have fr_448 : M_416 86 = none := by rw [eM_419, va_up_ne _ _ (by decide)]; exact fr_412
  have fr_449 : M_416 87 = none := by rw [eM_419, va_up_ne _ _ (by decide)]; exact fr_413
  clear hm_386 hm_387 hm_388 hm_389 hm_390 hm_391 hm_392 fr_394 fr_395 fr_396 fr_397 fr_398 fr_399 fr_400 fr_401 fr_402 fr_403 fr_404 fr_405 fr_406 fr_407 fr_408 fr_409 fr_410 fr_411 fr_412 fr_413
  have hF_450 : ∀ j : Nat, j ≠ 61 → j ≠ 60 → j ≠ 62 → j ≠ 63 → j ≠ 64 → j ≠ 65 → j ≠ 66 → j ≠ 67 → M_416 j = M j := fun j q0 q1 q2 q3 q4 q5 q6 q7 => by rw [eM_419, va_up_ne _ _ q7]; exact hF_414 j q0 q1 q2 q3 q4 q5 q6
  clear hF_414
  refine n_eqs (show ([.ref (ad_415 67), .ref (ad_346 60)] : List Value) = [.ref (ad_415 67), .ref (ad_415 60)] from by rw [hAd_421 60 (by decide)]) ?_
  refine h_putF (C := RX10) (T := TX10) (N := 38) hx hb hts i_RX10 tyX10 tyX10_ok nmX10 hown hI hm_423 rfl 7 (by decide) f_33 rfl rfl hini rfl rfl rfl (Nat.le_of_ble_eq_true rfl) dX10_init_57 (fun M_451 H_452 locs_453 eM_454 hI => ?_)
  have hm_455 : M_451 60 = some (.inr (11, [.int (nI 0), .ref (ad_415 61), .ref (ad_415 62), .ref (ad_415 63), .ref (ad_415 64), .ref (ad_415 65), .ref (ad_415 66), .ref (ad_415 67), .null, .null, .null, .int (nI 0), .null, .null, .null, .int (nI 0), .null, .null, .null, .null, .null, .null, .int (nI 0), .int (nI 0), .int (nI 0), .null, .int (nI 0), .int (nI 0), .int (nI 0), .int (nI 0), .int (nI 0), .null, .null, .null, .null, .null, .null, .null])) := by rw [eM_454]; exact va_up_self _ _ _
  have hm_456 : M_451 61 = some (aI G 36 (nF (fun _ => 0))) := by rw [eM_454, va_up_ne _ _ (by decide)]; exact hm_424
  have hm_457 : M_451 62 = some (aI G 36 (nF (fun _ => 0))) := by rw [eM_454, va_up_ne _ _ (by decide)]; exact hm_425
  have hm_458 : M_451 63 = some (aI G 36 (nF (fun _ => 0))) := by rw [eM_454, va_up_ne _ _ (by decide)]; exact hm_426
  have hm_459 : M_451 64 = some (aZ G 6 (bF (fun _ => false))) := by rw [eM_454, va_up_ne _ _ (by decide)]; exact hm_427
  have hm_460 : M_451 65 = some (aI G 120 (nF (fun _ => 0))) := by rw [eM_454, va_up_ne _ _ (by decide)]; exact hm_428
  have hm_461 : M_451 66 = some (aI G 120 (nF (fun _ => 0))) := by rw [eM_454, va_up_ne _ _ (by decide)]; exact hm_429
  have hm_462 : M_451 67 = some (aI G 120 (nF (fun _ => 0))) := by rw [eM_454, va_up_ne _ _ (by decide)]; exact hm_422
  have fr_463 : M_451 68 = none := by rw [eM_454, va_up_ne _ _ (by decide)]; exact fr_430
  have fr_464 : M_451 69 = none := by rw [eM_454, va_up_ne _ _ (by decide)]; exact fr_431
  have fr_465 : M_451 70 = none := by rw [eM_454, va_up_ne _ _ (by decide)]; exact fr_432
  have fr_466 : M_451 71 = none := by rw [eM_454, va_up_ne _ _ (by decide)]; exact fr_433
  have fr_467 : M_451 72 = none := by rw [eM_454, va_up_ne _ _ (by decide)]; exact fr_434
  have fr_468 : M_451 73 = none := by rw [eM_454, va_up_ne _ _ (by decide)]; exact fr_435
  have fr_469 : M_451 74 = none := by rw [eM_454, va_up_ne _ _ (by decide)]; exact fr_436
  have fr_470 : M_451 75 = none := by rw [eM_454, va_up_ne _ _ (by decide)]; exact fr_437
  have fr_471 : M_451 76 = none := by rw [eM_454, va_up_ne _ _ (by decide)]; exact fr_438
  have fr_472 : M_451 77 = none := by rw [eM_454, va_up_ne _ _ (by decide)]; exact fr_439
  have fr_473 : M_451 78 = none := by rw [eM_454, va_up_ne _ _ (by decide)]; exact fr_440
  have fr_474 : M_451 79 = none := by rw [eM_454, va_up_ne _ _ (by decide)]; exact fr_441
  have fr_475 : M_451 80 = none := by rw [eM_454, va_up_ne _ _ (by decide)]; exact fr_442
  have fr_476 : M_451 81 = none := by rw [eM_454, va_up_ne _ _ (by decide)]; exact fr_443
  have fr_477 : M_451 82 = none := by rw [eM_454, va_up_ne _ _ (by decide)]; exact fr_444
  have fr_478 : M_451 83 = none := by rw [eM_454, va_up_ne _ _ (by decide)]; exact fr_445
  have fr_479 : M_451 84 = none := by rw [eM_454, va_up_ne _ _ (by decide)]; exact fr_446
  have fr_480 : M_451 85 = none := by rw [eM_454, va_up_ne _ _ (by decide)]; exact fr_447
  have fr_481 : M_451 86 = none := by rw [eM_454, va_up_ne _ _ (by decide)]; exact fr_448
  have fr_482 : M_451 87 = none := by rw [eM_454, va_up_ne _ _ (by decide)]; exact fr_449
  have hF_483 : ∀ j : Nat, j ≠ 61 → j ≠ 60 → j ≠ 62 → j ≠ 63 → j ≠ 64 → j ≠ 65 → j ≠ 66 → j ≠ 67 → M_451 j = M j := fun j q0 q1 q2 q3 q4 q5 q6 q7 => by rw [eM_454, va_up_ne _ _ q1]; exact hF_450 j q0 q1 q2 q3 q4 q5 q6 q7
  clear hm_423 hm_424 hm_425 hm_426 hm_427 hm_428 hm_429 hm_422 fr_430 fr_431 fr_432 fr_433 fr_434 fr_435 fr_436 fr_437 fr_438 fr_439 fr_440 fr_441 fr_442 fr_443 fr_444 fr_445 fr_446 fr_447 fr_448 fr_449 hF_450
  refine lv_aload_n hx hb dX10_init_60 rfl (lv_at hl 0 rfl) ?_
  refine n_eqv (show Value.ref (ad 60) = .ref (ad_415 60) from by rw [hAd_421 60 (by decide), hAd_352 60 (by decide), hAd_283 60 (by decide), hAd_214 60 (by decide), hAd_145 60 (by decide), hAd_76 60 (by decide), hAd_7 60 (by decide)]) ?_
  refine lv_bipush (v := nI 121) hx hb dX10_init_61 (by decide) ?_
  refine h_newa (atype := .int) (n := 121) (a0 := (121, .inl (nF (fun _ => 0)))) hx hb na_int 0 (ty := .int) rfl rfl (fun C h => by cases h) hI (ha_int 121) (by decide) (by decide) (Nat.le_of_ble_eq_true rfl) (Nat.le_of_ble_eq_true rfl) dX10_init_63 68 fr_463 (fun ad_484 M_485 H_486 hA_487 eM_488 hI => ?_)
  have hAd_490 : ∀ j : Nat, j ≠ 68 → ad_484 j = ad_415 j := fun j hj => by obtain ⟨q, e⟩ := hA_487; rw [e]; exact va_up_ne _ _ hj
  have hm_491 : M_485 68 = some (aI G 121 (nF (fun _ => 0))) := by rw [eM_488]; exact va_up_self _ _ _
  have hm_492 : M_485 60 = some (.inr (11, [.int (nI 0), .ref (ad_484 61), .ref (ad_484 62), .ref (ad_484 63), .ref (ad_484 64), .ref (ad_484 65), .ref (ad_484 66), .ref (ad_484 67), .null, .null, .null, .int (nI 0), .null, .null, .null, .int (nI 0), .null, .null, .null, .null, .null, .null, .int (nI 0), .int (nI 0), .int (nI 0), .null, .int (nI 0), .int (nI 0), .int (nI 0), .int (nI 0), .int (nI 0), .null, .null, .null, .null, .null, .null, .null])) := by rw [eM_488, va_up_ne _ _ (by decide), hm_455]; rw [hAd_490 61 (by decide), hAd_490 62 (by decide), hAd_490 63 (by decide), hAd_490 64 (by decide), hAd_490 65 (by decide), hAd_490 66 (by decide), hAd_490 67 (by decide)]
  have hm_493 : M_485 61 = some (aI G 36 (nF (fun _ => 0))) := by rw [eM_488, va_up_ne _ _ (by decide), hm_456]
  have hm_494 : M_485 62 = some (aI G 36 (nF (fun _ => 0))) := by rw [eM_488, va_up_ne _ _ (by decide), hm_457]
  have hm_495 : M_485 63 = some (aI G 36 (nF (fun _ => 0))) := by rw [eM_488, va_up_ne _ _ (by decide), hm_458]
  have hm_496 : M_485 64 = some (aZ G 6 (bF (fun _ => false))) := by rw [eM_488, va_up_ne _ _ (by decide), hm_459]
  have hm_497 : M_485 65 = some (aI G 120 (nF (fun _ => 0))) := by rw [eM_488, va_up_ne _ _ (by decide), hm_460]
  have hm_498 : M_485 66 = some (aI G 120 (nF (fun _ => 0))) := by rw [eM_488, va_up_ne _ _ (by decide), hm_461]
  have hm_499 : M_485 67 = some (aI G 120 (nF (fun _ => 0))) := by rw [eM_488, va_up_ne _ _ (by decide), hm_462]
  have fr_500 : M_485 69 = none := by rw [eM_488, va_up_ne _ _ (by decide)]; exact fr_464
  have fr_501 : M_485 70 = none := by rw [eM_488, va_up_ne _ _ (by decide)]; exact fr_465
  have fr_502 : M_485 71 = none := by rw [eM_488, va_up_ne _ _ (by decide)]; exact fr_466
  have fr_503 : M_485 72 = none := by rw [eM_488, va_up_ne _ _ (by decide)]; exact fr_467
  have fr_504 : M_485 73 = none := by rw [eM_488, va_up_ne _ _ (by decide)]; exact fr_468
  have fr_505 : M_485 74 = none := by rw [eM_488, va_up_ne _ _ (by decide)]; exact fr_469
  have fr_506 : M_485 75 = none := by rw [eM_488, va_up_ne _ _ (by decide)]; exact fr_470
  have fr_507 : M_485 76 = none := by rw [eM_488, va_up_ne _ _ (by decide)]; exact fr_471
  have fr_508 : M_485 77 = none := by rw [eM_488, va_up_ne _ _ (by decide)]; exact fr_472
  have fr_509 : M_485 78 = none := by rw [eM_488, va_up_ne _ _ (by decide)]; exact fr_473
  have fr_510 : M_485 79 = none := by rw [eM_488, va_up_ne _ _ (by decide)]; exact fr_474
  have fr_511 : M_485 80 = none := by rw [eM_488, va_up_ne _ _ (by decide)]; exact fr_475
  have fr_512 : M_485 81 = none := by rw [eM_488, va_up_ne _ _ (by decide)]; exact fr_476
  have fr_513 : M_485 82 = none := by rw [eM_488, va_up_ne _ _ (by decide)]; exact fr_477
  have fr_514 : M_485 83 = none := by rw [eM_488, va_up_ne _ _ (by decide)]; exact fr_478
  have fr_515 : M_485 84 = none := by rw [eM_488, va_up_ne _ _ (by decide)]; exact fr_479
  have fr_516 : M_485 85 = none := by rw [eM_488, va_up_ne _ _ (by decide)]; exact fr_480
  have fr_517 : M_485 86 = none := by rw [eM_488, va_up_ne _ _ (by decide)]; exact fr_481
  have fr_518 : M_485 87 = none := by rw [eM_488, va_up_ne _ _ (by decide)]; exact fr_482
  clear hm_455 hm_456 hm_457 hm_458 hm_459 hm_460 hm_461 hm_462 fr_464 fr_465 fr_466 fr_467 fr_468 fr_469 fr_470 fr_471 fr_472 fr_473 fr_474 fr_475 fr_476 fr_477 fr_478 fr_479 fr_480 fr_481 fr_482
  have hF_519 : ∀ j : Nat, j ≠ 61 → j ≠ 60 → j ≠ 62 → j ≠ 63 → j ≠ 64 → j ≠ 65 → j ≠ 66 → j ≠ 67 → j ≠ 68 → M_485 j = M j := fun j q0 q1 q2 q3 q4 q5 q6 q7 q8 => by rw [eM_488, va_up_ne _ _ q8]; exact hF_483 j q0 q1 q2 q3 q4 q5 q6 q7
  clear hF_483
  refine n_eqs (show ([.ref (ad_484 68), .ref (ad_415 60)] : List Value) = [.ref (ad_484 68), .ref (ad_484 60)] from by rw [hAd_490 60 (by decide)]) ?_
  refine h_putF (C := RX10) (T := TX10) (N := 38) hx hb hts i_RX10 tyX10 tyX10_ok nmX10 hown hI hm_492 rfl 8 (by decide) f_36 rfl rfl hini rfl rfl rfl (Nat.le_of_ble_eq_true rfl) dX10_init_65 (fun M_520 H_521 locs_522 eM_523 hI => ?_)
  have hm_524 : M_520 60 = some (.inr (11, [.int (nI 0), .ref (ad_484 61), .ref (ad_484 62), .ref (ad_484 63), .ref (ad_484 64), .ref (ad_484 65), .ref (ad_484 66), .ref (ad_484 67), .ref (ad_484 68), .null, .null, .int (nI 0), .null, .null, .null, .int (nI 0), .null, .null, .null, .null, .null, .null, .int (nI 0), .int (nI 0), .int (nI 0), .null, .int (nI 0), .int (nI 0), .int (nI 0), .int (nI 0), .int (nI 0), .null, .null, .null, .null, .null, .null, .null])) := by rw [eM_523]; exact va_up_self _ _ _
  have hm_525 : M_520 61 = some (aI G 36 (nF (fun _ => 0))) := by rw [eM_523, va_up_ne _ _ (by decide)]; exact hm_493
  have hm_526 : M_520 62 = some (aI G 36 (nF (fun _ => 0))) := by rw [eM_523, va_up_ne _ _ (by decide)]; exact hm_494
  have hm_527 : M_520 63 = some (aI G 36 (nF (fun _ => 0))) := by rw [eM_523, va_up_ne _ _ (by decide)]; exact hm_495
  have hm_528 : M_520 64 = some (aZ G 6 (bF (fun _ => false))) := by rw [eM_523, va_up_ne _ _ (by decide)]; exact hm_496
  have hm_529 : M_520 65 = some (aI G 120 (nF (fun _ => 0))) := by rw [eM_523, va_up_ne _ _ (by decide)]; exact hm_497
  have hm_530 : M_520 66 = some (aI G 120 (nF (fun _ => 0))) := by rw [eM_523, va_up_ne _ _ (by decide)]; exact hm_498
  have hm_531 : M_520 67 = some (aI G 120 (nF (fun _ => 0))) := by rw [eM_523, va_up_ne _ _ (by decide)]; exact hm_499
  have hm_532 : M_520 68 = some (aI G 121 (nF (fun _ => 0))) := by rw [eM_523, va_up_ne _ _ (by decide)]; exact hm_491
  have fr_533 : M_520 69 = none := by rw [eM_523, va_up_ne _ _ (by decide)]; exact fr_500
  have fr_534 : M_520 70 = none := by rw [eM_523, va_up_ne _ _ (by decide)]; exact fr_501
  have fr_535 : M_520 71 = none := by rw [eM_523, va_up_ne _ _ (by decide)]; exact fr_502
  have fr_536 : M_520 72 = none := by rw [eM_523, va_up_ne _ _ (by decide)]; exact fr_503
  have fr_537 : M_520 73 = none := by rw [eM_523, va_up_ne _ _ (by decide)]; exact fr_504
  have fr_538 : M_520 74 = none := by rw [eM_523, va_up_ne _ _ (by decide)]; exact fr_505
  have fr_539 : M_520 75 = none := by rw [eM_523, va_up_ne _ _ (by decide)]; exact fr_506
  have fr_540 : M_520 76 = none := by rw [eM_523, va_up_ne _ _ (by decide)]; exact fr_507
  have fr_541 : M_520 77 = none := by rw [eM_523, va_up_ne _ _ (by decide)]; exact fr_508
  have fr_542 : M_520 78 = none := by rw [eM_523, va_up_ne _ _ (by decide)]; exact fr_509
  have fr_543 : M_520 79 = none := by rw [eM_523, va_up_ne _ _ (by decide)]; exact fr_510
  have fr_544 : M_520 80 = none := by rw [eM_523, va_up_ne _ _ (by decide)]; exact fr_511
  have fr_545 : M_520 81 = none := by rw [eM_523, va_up_ne _ _ (by decide)]; exact fr_512
  have fr_546 : M_520 82 = none := by rw [eM_523, va_up_ne _ _ (by decide)]; exact fr_513
  have fr_547 : M_520 83 = none := by rw [eM_523, va_up_ne _ _ (by decide)]; exact fr_514
  have fr_548 : M_520 84 = none := by rw [eM_523, va_up_ne _ _ (by decide)]; exact fr_515
  have fr_549 : M_520 85 = none := by rw [eM_523, va_up_ne _ _ (by decide)]; exact fr_516
  have fr_550 : M_520 86 = none := by rw [eM_523, va_up_ne _ _ (by decide)]; exact fr_517
  have fr_551 : M_520 87 = none := by rw [eM_523, va_up_ne _ _ (by decide)]; exact fr_518
  have hF_552 : ∀ j : Nat, j ≠ 61 → j ≠ 60 → j ≠ 62 → j ≠ 63 → j ≠ 64 → j ≠ 65 → j ≠ 66 → j ≠ 67 → j ≠ 68 → M_520 j = M j := fun j q0 q1 q2 q3 q4 q5 q6 q7 q8 => by rw [eM_523, va_up_ne _ _ q1]; exact hF_519 j q0 q1 q2 q3 q4 q5 q6 q7 q8
  clear hm_492 hm_493 hm_494 hm_495 hm_496 hm_497 hm_498 hm_499 hm_491 fr_500 fr_501 fr_502 fr_503 fr_504 fr_505 fr_506 fr_507 fr_508 fr_509 fr_510 fr_511 fr_512 fr_513 fr_514 fr_515 fr_516 fr_517 fr_518 hF_519
  refine lv_aload_n hx hb dX10_init_68 rfl (lv_at hl 0 rfl) ?_
  refine n_eqv (show Value.ref (ad 60) = .ref (ad_484 60) from by rw [hAd_490 60 (by decide), hAd_421 60 (by decide), hAd_352 60 (by decide), hAd_283 60 (by decide), hAd_214 60 (by decide), hAd_145 60 (by decide), hAd_76 60 (by decide), hAd_7 60 (by decide)]) ?_
  refine lv_sipush (v := nI 726) hx hb dX10_init_69 (by decide) ?_
  refine h_newa (atype := .int) (n := 726) (a0 := (726, .inl (nF (fun _ => 0)))) hx hb na_int 0 (ty := .int) rfl rfl (fun C h => by cases h) hI (ha_int 726) (by decide) (by decide) (Nat.le_of_ble_eq_true rfl) (Nat.le_of_ble_eq_true rfl) dX10_init_72 69 fr_533 (fun ad_553 M_554 H_555 hA_556 eM_557 hI => ?_)
  have hAd_559 : ∀ j : Nat, j ≠ 69 → ad_553 j = ad_484 j := fun j hj => by obtain ⟨q, e⟩ := hA_556; rw [e]; exact va_up_ne _ _ hj
  have hm_560 : M_554 69 = some (aI G 726 (nF (fun _ => 0))) := by rw [eM_557]; exact va_up_self _ _ _
  have hm_561 : M_554 60 = some (.inr (11, [.int (nI 0), .ref (ad_553 61), .ref (ad_553 62), .ref (ad_553 63), .ref (ad_553 64), .ref (ad_553 65), .ref (ad_553 66), .ref (ad_553 67), .ref (ad_553 68), .null, .null, .int (nI 0), .null, .null, .null, .int (nI 0), .null, .null, .null, .null, .null, .null, .int (nI 0), .int (nI 0), .int (nI 0), .null, .int (nI 0), .int (nI 0), .int (nI 0), .int (nI 0), .int (nI 0), .null, .null, .null, .null, .null, .null, .null])) := by rw [eM_557, va_up_ne _ _ (by decide), hm_524]; rw [hAd_559 61 (by decide), hAd_559 62 (by decide), hAd_559 63 (by decide), hAd_559 64 (by decide), hAd_559 65 (by decide), hAd_559 66 (by decide), hAd_559 67 (by decide), hAd_559 68 (by decide)]
  have hm_562 : M_554 61 = some (aI G 36 (nF (fun _ => 0))) := by rw [eM_557, va_up_ne _ _ (by decide), hm_525]
  have hm_563 : M_554 62 = some (aI G 36 (nF (fun _ => 0))) := by rw [eM_557, va_up_ne _ _ (by decide), hm_526]
  have hm_564 : M_554 63 = some (aI G 36 (nF (fun _ => 0))) := by rw [eM_557, va_up_ne _ _ (by decide), hm_527]
  have hm_565 : M_554 64 = some (aZ G 6 (bF (fun _ => false))) := by rw [eM_557, va_up_ne _ _ (by decide), hm_528]
  have hm_566 : M_554 65 = some (aI G 120 (nF (fun _ => 0))) := by rw [eM_557, va_up_ne _ _ (by decide), hm_529]
  have hm_567 : M_554 66 = some (aI G 120 (nF (fun _ => 0))) := by rw [eM_557, va_up_ne _ _ (by decide), hm_530]
  have hm_568 : M_554 67 = some (aI G 120 (nF (fun _ => 0))) := by rw [eM_557, va_up_ne _ _ (by decide), hm_531]
  have hm_569 : M_554 68 = some (aI G 121 (nF (fun _ => 0))) := by rw [eM_557, va_up_ne _ _ (by decide), hm_532]
  have fr_570 : M_554 70 = none := by rw [eM_557, va_up_ne _ _ (by decide)]; exact fr_534
  have fr_571 : M_554 71 = none := by rw [eM_557, va_up_ne _ _ (by decide)]; exact fr_535
  have fr_572 : M_554 72 = none := by rw [eM_557, va_up_ne _ _ (by decide)]; exact fr_536
  have fr_573 : M_554 73 = none := by rw [eM_557, va_up_ne _ _ (by decide)]; exact fr_537
  have fr_574 : M_554 74 = none := by rw [eM_557, va_up_ne _ _ (by decide)]; exact fr_538
  have fr_575 : M_554 75 = none := by rw [eM_557, va_up_ne _ _ (by decide)]; exact fr_539
  have fr_576 : M_554 76 = none := by rw [eM_557, va_up_ne _ _ (by decide)]; exact fr_540
  have fr_577 : M_554 77 = none := by rw [eM_557, va_up_ne _ _ (by decide)]; exact fr_541
  have fr_578 : M_554 78 = none := by rw [eM_557, va_up_ne _ _ (by decide)]; exact fr_542
  have fr_579 : M_554 79 = none := by rw [eM_557, va_up_ne _ _ (by decide)]; exact fr_543
  have fr_580 : M_554 80 = none := by rw [eM_557, va_up_ne _ _ (by decide)]; exact fr_544
  have fr_581 : M_554 81 = none := by rw [eM_557, va_up_ne _ _ (by decide)]; exact fr_545
  have fr_582 : M_554 82 = none := by rw [eM_557, va_up_ne _ _ (by decide)]; exact fr_546
  have fr_583 : M_554 83 = none := by rw [eM_557, va_up_ne _ _ (by decide)]; exact fr_547
  have fr_584 : M_554 84 = none := by rw [eM_557, va_up_ne _ _ (by decide)]; exact fr_548
  have fr_585 : M_554 85 = none := by rw [eM_557, va_up_ne _ _ (by decide)]; exact fr_549
  have fr_586 : M_554 86 = none := by rw [eM_557, va_up_ne _ _ (by decide)]; exact fr_550
  have fr_587 : M_554 87 = none := by rw [eM_557, va_up_ne _ _ (by decide)]; exact fr_551
  clear hm_524 hm_525 hm_526 hm_527 hm_528 hm_529 hm_530 hm_531 hm_532 fr_534 fr_535 fr_536 fr_537 fr_538 fr_539 fr_540 fr_541 fr_542 fr_543 fr_544 fr_545 fr_546 fr_547 fr_548 fr_549 fr_550 fr_551
  have hF_588 : ∀ j : Nat, j ≠ 61 → j ≠ 60 → j ≠ 62 → j ≠ 63 → j ≠ 64 → j ≠ 65 → j ≠ 66 → j ≠ 67 → j ≠ 68 → j ≠ 69 → M_554 j = M j := fun j q0 q1 q2 q3 q4 q5 q6 q7 q8 q9 => by rw [eM_557, va_up_ne _ _ q9]; exact hF_552 j q0 q1 q2 q3 q4 q5 q6 q7 q8
  clear hF_552
  refine n_eqs (show ([.ref (ad_553 69), .ref (ad_484 60)] : List Value) = [.ref (ad_553 69), .ref (ad_553 60)] from by rw [hAd_559 60 (by decide)]) ?_
  refine h_putF (C := RX10) (T := TX10) (N := 38) hx hb hts i_RX10 tyX10 tyX10_ok nmX10 hown hI hm_561 rfl 9 (by decide) f_39 rfl rfl hini rfl rfl rfl (Nat.le_of_ble_eq_true rfl) dX10_init_74 (fun M_589 H_590 locs_591 eM_592 hI => ?_)
  have hm_593 : M_589 60 = some (.inr (11, [.int (nI 0), .ref (ad_553 61), .ref (ad_553 62), .ref (ad_553 63), .ref (ad_553 64), .ref (ad_553 65), .ref (ad_553 66), .ref (ad_553 67), .ref (ad_553 68), .ref (ad_553 69), .null, .int (nI 0), .null, .null, .null, .int (nI 0), .null, .null, .null, .null, .null, .null, .int (nI 0), .int (nI 0), .int (nI 0), .null, .int (nI 0), .int (nI 0), .int (nI 0), .int (nI 0), .int (nI 0), .null, .null, .null, .null, .null, .null, .null])) := by rw [eM_592]; exact va_up_self _ _ _
  have hm_594 : M_589 61 = some (aI G 36 (nF (fun _ => 0))) := by rw [eM_592, va_up_ne _ _ (by decide)]; exact hm_562
  have hm_595 : M_589 62 = some (aI G 36 (nF (fun _ => 0))) := by rw [eM_592, va_up_ne _ _ (by decide)]; exact hm_563
  have hm_596 : M_589 63 = some (aI G 36 (nF (fun _ => 0))) := by rw [eM_592, va_up_ne _ _ (by decide)]; exact hm_564
  have hm_597 : M_589 64 = some (aZ G 6 (bF (fun _ => false))) := by rw [eM_592, va_up_ne _ _ (by decide)]; exact hm_565
  have hm_598 : M_589 65 = some (aI G 120 (nF (fun _ => 0))) := by rw [eM_592, va_up_ne _ _ (by decide)]; exact hm_566
  have hm_599 : M_589 66 = some (aI G 120 (nF (fun _ => 0))) := by rw [eM_592, va_up_ne _ _ (by decide)]; exact hm_567
  have hm_600 : M_589 67 = some (aI G 120 (nF (fun _ => 0))) := by rw [eM_592, va_up_ne _ _ (by decide)]; exact hm_568
  have hm_601 : M_589 68 = some (aI G 121 (nF (fun _ => 0))) := by rw [eM_592, va_up_ne _ _ (by decide)]; exact hm_569
  have hm_602 : M_589 69 = some (aI G 726 (nF (fun _ => 0))) := by rw [eM_592, va_up_ne _ _ (by decide)]; exact hm_560
  have fr_603 : M_589 70 = none := by rw [eM_592, va_up_ne _ _ (by decide)]; exact fr_570
  have fr_604 : M_589 71 = none := by rw [eM_592, va_up_ne _ _ (by decide)]; exact fr_571
  have fr_605 : M_589 72 = none := by rw [eM_592, va_up_ne _ _ (by decide)]; exact fr_572
  have fr_606 : M_589 73 = none := by rw [eM_592, va_up_ne _ _ (by decide)]; exact fr_573
  have fr_607 : M_589 74 = none := by rw [eM_592, va_up_ne _ _ (by decide)]; exact fr_574
  have fr_608 : M_589 75 = none := by rw [eM_592, va_up_ne _ _ (by decide)]; exact fr_575
  have fr_609 : M_589 76 = none := by rw [eM_592, va_up_ne _ _ (by decide)]; exact fr_576
  have fr_610 : M_589 77 = none := by rw [eM_592, va_up_ne _ _ (by decide)]; exact fr_577
  have fr_611 : M_589 78 = none := by rw [eM_592, va_up_ne _ _ (by decide)]; exact fr_578
  have fr_612 : M_589 79 = none := by rw [eM_592, va_up_ne _ _ (by decide)]; exact fr_579
  have fr_613 : M_589 80 = none := by rw [eM_592, va_up_ne _ _ (by decide)]; exact fr_580
  have fr_614 : M_589 81 = none := by rw [eM_592, va_up_ne _ _ (by decide)]; exact fr_581
  have fr_615 : M_589 82 = none := by rw [eM_592, va_up_ne _ _ (by decide)]; exact fr_582
  have fr_616 : M_589 83 = none := by rw [eM_592, va_up_ne _ _ (by decide)]; exact fr_583
  have fr_617 : M_589 84 = none := by rw [eM_592, va_up_ne _ _ (by decide)]; exact fr_584
  have fr_618 : M_589 85 = none := by rw [eM_592, va_up_ne _ _ (by decide)]; exact fr_585
  have fr_619 : M_589 86 = none := by rw [eM_592, va_up_ne _ _ (by decide)]; exact fr_586
  have fr_620 : M_589 87 = none := by rw [eM_592, va_up_ne _ _ (by decide)]; exact fr_587
  have hF_621 : ∀ j : Nat, j ≠ 61 → j ≠ 60 → j ≠ 62 → j ≠ 63 → j ≠ 64 → j ≠ 65 → j ≠ 66 → j ≠ 67 → j ≠ 68 → j ≠ 69 → M_589 j = M j := fun j q0 q1 q2 q3 q4 q5 q6 q7 q8 q9 => by rw [eM_592, va_up_ne _ _ q1]; exact hF_588 j q0 q1 q2 q3 q4 q5 q6 q7 q8 q9
  clear hm_561 hm_562 hm_563 hm_564 hm_565 hm_566 hm_567 hm_568 hm_569 hm_560 fr_570 fr_571 fr_572 fr_573 fr_574 fr_575 fr_576 fr_577 fr_578 fr_579 fr_580 fr_581 fr_582 fr_583 fr_584 fr_585 fr_586 fr_587 hF_588
  refine lv_aload_n hx hb dX10_init_77 rfl (lv_at hl 0 rfl) ?_
  refine n_eqv (show Value.ref (ad 60) = .ref (ad_553 60) from by rw [hAd_559 60 (by decide), hAd_490 60 (by decide), hAd_421 60 (by decide), hAd_352 60 (by decide), hAd_283 60 (by decide), hAd_214 60 (by decide), hAd_145 60 (by decide), hAd_76 60 (by decide), hAd_7 60 (by decide)]) ?_
  refine lv_sipush (v := nI 726) hx hb dX10_init_78 (by decide) ?_
  refine h_newa (atype := .int) (n := 726) (a0 := (726, .inl (nF (fun _ => 0)))) hx hb na_int 0 (ty := .int) rfl rfl (fun C h => by cases h) hI (ha_int 726) (by decide) (by decide) (Nat.le_of_ble_eq_true rfl) (Nat.le_of_ble_eq_true rfl) dX10_init_81 70 fr_603 (fun ad_622 M_623 H_624 hA_625 eM_626 hI => ?_)
  have hAd_628 : ∀ j : Nat, j ≠ 70 → ad_622 j = ad_553 j := fun j hj => by obtain ⟨q, e⟩ := hA_625; rw [e]; exact va_up_ne _ _ hj
  have hm_629 : M_623 70 = some (aI G 726 (nF (fun _ => 0))) := by rw [eM_626]; exact va_up_self _ _ _
  have hm_630 : M_623 60 = some (.inr (11, [.int (nI 0), .ref (ad_622 61), .ref (ad_622 62), .ref (ad_622 63), .ref (ad_622 64), .ref (ad_622 65), .ref (ad_622 66), .ref (ad_622 67), .ref (ad_622 68), .ref (ad_622 69), .null, .int (nI 0), .null, .null, .null, .int (nI 0), .null, .null, .null, .null, .null, .null, .int (nI 0), .int (nI 0), .int (nI 0), .null, .int (nI 0), .int (nI 0), .int (nI 0), .int (nI 0), .int (nI 0), .null, .null, .null, .null, .null, .null, .null])) := by rw [eM_626, va_up_ne _ _ (by decide), hm_593]; rw [hAd_628 61 (by decide), hAd_628 62 (by decide), hAd_628 63 (by decide), hAd_628 64 (by decide), hAd_628 65 (by decide), hAd_628 66 (by decide), hAd_628 67 (by decide), hAd_628 68 (by decide), hAd_628 69 (by decide)]
  have hm_631 : M_623 61 = some (aI G 36 (nF (fun _ => 0))) := by rw [eM_626, va_up_ne _ _ (by decide), hm_594]
  have hm_632 : M_623 62 = some (aI G 36 (nF (fun _ => 0))) := by rw [eM_626, va_up_ne _ _ (by decide), hm_595]
  have hm_633 : M_623 63 = some (aI G 36 (nF (fun _ => 0))) := by rw [eM_626, va_up_ne _ _ (by decide), hm_596]
  have hm_634 : M_623 64 = some (aZ G 6 (bF (fun _ => false))) := by rw [eM_626, va_up_ne _ _ (by decide), hm_597]
  have hm_635 : M_623 65 = some (aI G 120 (nF (fun _ => 0))) := by rw [eM_626, va_up_ne _ _ (by decide), hm_598]
  have hm_636 : M_623 66 = some (aI G 120 (nF (fun _ => 0))) := by rw [eM_626, va_up_ne _ _ (by decide), hm_599]
  have hm_637 : M_623 67 = some (aI G 120 (nF (fun _ => 0))) := by rw [eM_626, va_up_ne _ _ (by decide), hm_600]
  have hm_638 : M_623 68 = some (aI G 121 (nF (fun _ => 0))) := by rw [eM_626, va_up_ne _ _ (by decide), hm_601]
  have hm_639 : M_623 69 = some (aI G 726 (nF (fun _ => 0))) := by rw [eM_626, va_up_ne _ _ (by decide), hm_602]
  have fr_640 : M_623 71 = none := by rw [eM_626, va_up_ne _ _ (by decide)]; exact fr_604
  have fr_641 : M_623 72 = none := by rw [eM_626, va_up_ne _ _ (by decide)]; exact fr_605
  have fr_642 : M_623 73 = none := by rw [eM_626, va_up_ne _ _ (by decide)]; exact fr_606
  have fr_643 : M_623 74 = none := by rw [eM_626, va_up_ne _ _ (by decide)]; exact fr_607
  have fr_644 : M_623 75 = none := by rw [eM_626, va_up_ne _ _ (by decide)]; exact fr_608
  have fr_645 : M_623 76 = none := by rw [eM_626, va_up_ne _ _ (by decide)]; exact fr_609
  have fr_646 : M_623 77 = none := by rw [eM_626, va_up_ne _ _ (by decide)]; exact fr_610
  have fr_647 : M_623 78 = none := by rw [eM_626, va_up_ne _ _ (by decide)]; exact fr_611
  have fr_648 : M_623 79 = none := by rw [eM_626, va_up_ne _ _ (by decide)]; exact fr_612
  have fr_649 : M_623 80 = none := by rw [eM_626, va_up_ne _ _ (by decide)]; exact fr_613
  have fr_650 : M_623 81 = none := by rw [eM_626, va_up_ne _ _ (by decide)]; exact fr_614
  have fr_651 : M_623 82 = none := by rw [eM_626, va_up_ne _ _ (by decide)]; exact fr_615
  have fr_652 : M_623 83 = none := by rw [eM_626, va_up_ne _ _ (by decide)]; exact fr_616
  have fr_653 : M_623 84 = none := by rw [eM_626, va_up_ne _ _ (by decide)]; exact fr_617
  have fr_654 : M_623 85 = none := by rw [eM_626, va_up_ne _ _ (by decide)]; exact fr_618
  have fr_655 : M_623 86 = none := by rw [eM_626, va_up_ne _ _ (by decide)]; exact fr_619
  have fr_656 : M_623 87 = none := by rw [eM_626, va_up_ne _ _ (by decide)]; exact fr_620
  clear hm_593 hm_594 hm_595 hm_596 hm_597 hm_598 hm_599 hm_600 hm_601 hm_602 fr_604 fr_605 fr_606 fr_607 fr_608 fr_609 fr_610 fr_611 fr_612 fr_613 fr_614 fr_615 fr_616 fr_617 fr_618 fr_619 fr_620
  have hF_657 : ∀ j : Nat, j ≠ 61 → j ≠ 60 → j ≠ 62 → j ≠ 63 → j ≠ 64 → j ≠ 65 → j ≠ 66 → j ≠ 67 → j ≠ 68 → j ≠ 69 → j ≠ 70 → M_623 j = M j := fun j q0 q1 q2 q3 q4 q5 q6 q7 q8 q9 q10 => by rw [eM_626, va_up_ne _ _ q10]; exact hF_621 j q0 q1 q2 q3 q4 q5 q6 q7 q8 q9
  clear hF_621
  refine n_eqs (show ([.ref (ad_622 70), .ref (ad_553 60)] : List Value) = [.ref (ad_622 70), .ref (ad_622 60)] from by rw [hAd_628 60 (by decide)]) ?_
  refine h_putF (C := RX10) (T := TX10) (N := 38) hx hb hts i_RX10 tyX10 tyX10_ok nmX10 hown hI hm_630 rfl 10 (by decide) f_42 rfl rfl hini rfl rfl rfl (Nat.le_of_ble_eq_true rfl) dX10_init_83 (fun M_658 H_659 locs_660 eM_661 hI => ?_)
  have hm_662 : M_658 60 = some (.inr (11, [.int (nI 0), .ref (ad_622 61), .ref (ad_622 62), .ref (ad_622 63), .ref (ad_622 64), .ref (ad_622 65), .ref (ad_622 66), .ref (ad_622 67), .ref (ad_622 68), .ref (ad_622 69), .ref (ad_622 70), .int (nI 0), .null, .null, .null, .int (nI 0), .null, .null, .null, .null, .null, .null, .int (nI 0), .int (nI 0), .int (nI 0), .null, .int (nI 0), .int (nI 0), .int (nI 0), .int (nI 0), .int (nI 0), .null, .null, .null, .null, .null, .null, .null])) := by rw [eM_661]; exact va_up_self _ _ _
  have hm_663 : M_658 61 = some (aI G 36 (nF (fun _ => 0))) := by rw [eM_661, va_up_ne _ _ (by decide)]; exact hm_631
  have hm_664 : M_658 62 = some (aI G 36 (nF (fun _ => 0))) := by rw [eM_661, va_up_ne _ _ (by decide)]; exact hm_632
  have hm_665 : M_658 63 = some (aI G 36 (nF (fun _ => 0))) := by rw [eM_661, va_up_ne _ _ (by decide)]; exact hm_633
  have hm_666 : M_658 64 = some (aZ G 6 (bF (fun _ => false))) := by rw [eM_661, va_up_ne _ _ (by decide)]; exact hm_634
  have hm_667 : M_658 65 = some (aI G 120 (nF (fun _ => 0))) := by rw [eM_661, va_up_ne _ _ (by decide)]; exact hm_635
  have hm_668 : M_658 66 = some (aI G 120 (nF (fun _ => 0))) := by rw [eM_661, va_up_ne _ _ (by decide)]; exact hm_636
  have hm_669 : M_658 67 = some (aI G 120 (nF (fun _ => 0))) := by rw [eM_661, va_up_ne _ _ (by decide)]; exact hm_637
  have hm_670 : M_658 68 = some (aI G 121 (nF (fun _ => 0))) := by rw [eM_661, va_up_ne _ _ (by decide)]; exact hm_638
  have hm_671 : M_658 69 = some (aI G 726 (nF (fun _ => 0))) := by rw [eM_661, va_up_ne _ _ (by decide)]; exact hm_639
  have hm_672 : M_658 70 = some (aI G 726 (nF (fun _ => 0))) := by rw [eM_661, va_up_ne _ _ (by decide)]; exact hm_629
  have fr_673 : M_658 71 = none := by rw [eM_661, va_up_ne _ _ (by decide)]; exact fr_640
  have fr_674 : M_658 72 = none := by rw [eM_661, va_up_ne _ _ (by decide)]; exact fr_641
  have fr_675 : M_658 73 = none := by rw [eM_661, va_up_ne _ _ (by decide)]; exact fr_642
  have fr_676 : M_658 74 = none := by rw [eM_661, va_up_ne _ _ (by decide)]; exact fr_643
  have fr_677 : M_658 75 = none := by rw [eM_661, va_up_ne _ _ (by decide)]; exact fr_644
  have fr_678 : M_658 76 = none := by rw [eM_661, va_up_ne _ _ (by decide)]; exact fr_645
  have fr_679 : M_658 77 = none := by rw [eM_661, va_up_ne _ _ (by decide)]; exact fr_646
  have fr_680 : M_658 78 = none := by rw [eM_661, va_up_ne _ _ (by decide)]; exact fr_647
  have fr_681 : M_658 79 = none := by rw [eM_661, va_up_ne _ _ (by decide)]; exact fr_648
  have fr_682 : M_658 80 = none := by rw [eM_661, va_up_ne _ _ (by decide)]; exact fr_649
  have fr_683 : M_658 81 = none := by rw [eM_661, va_up_ne _ _ (by decide)]; exact fr_650
  have fr_684 : M_658 82 = none := by rw [eM_661, va_up_ne _ _ (by decide)]; exact fr_651
  have fr_685 : M_658 83 = none := by rw [eM_661, va_up_ne _ _ (by decide)]; exact fr_652
  have fr_686 : M_658 84 = none := by rw [eM_661, va_up_ne _ _ (by decide)]; exact fr_653
  have fr_687 : M_658 85 = none := by rw [eM_661, va_up_ne _ _ (by decide)]; exact fr_654
  have fr_688 : M_658 86 = none := by rw [eM_661, va_up_ne _ _ (by decide)]; exact fr_655
  have fr_689 : M_658 87 = none := by rw [eM_661, va_up_ne _ _ (by decide)]; exact fr_656
  have hF_690 : ∀ j : Nat, j ≠ 61 → j ≠ 60 → j ≠ 62 → j ≠ 63 → j ≠ 64 → j ≠ 65 → j ≠ 66 → j ≠ 67 → j ≠ 68 → j ≠ 69 → j ≠ 70 → M_658 j = M j := fun j q0 q1 q2 q3 q4 q5 q6 q7 q8 q9 q10 => by rw [eM_661, va_up_ne _ _ q1]; exact hF_657 j q0 q1 q2 q3 q4 q5 q6 q7 q8 q9 q10
  clear hm_630 hm_631 hm_632 hm_633 hm_634 hm_635 hm_636 hm_637 hm_638 hm_639 hm_629 fr_640 fr_641 fr_642 fr_643 fr_644 fr_645 fr_646 fr_647 fr_648 fr_649 fr_650 fr_651 fr_652 fr_653 fr_654 fr_655 fr_656 hF_657
  refine lv_aload_n hx hb dX10_init_86 rfl (lv_at hl 0 rfl) ?_
  refine n_eqv (show Value.ref (ad 60) = .ref (ad_622 60) from by rw [hAd_628 60 (by decide), hAd_559 60 (by decide), hAd_490 60 (by decide), hAd_421 60 (by decide), hAd_352 60 (by decide), hAd_283 60 (by decide), hAd_214 60 (by decide), hAd_145 60 (by decide), hAd_76 60 (by decide), hAd_7 60 (by decide)]) ?_
  refine lv_bipush (v := nI 40) hx hb dX10_init_87 (by decide) ?_
  refine h_newa (atype := .int) (n := 40) (a0 := (40, .inl (nF (fun _ => 0)))) hx hb na_int 0 (ty := .int) rfl rfl (fun C h => by cases h) hI (ha_int 40) (by decide) (by decide) (Nat.le_of_ble_eq_true rfl) (Nat.le_of_ble_eq_true rfl) dX10_init_89 71 fr_673 (fun ad_691 M_692 H_693 hA_694 eM_695 hI => ?_)
  have hAd_697 : ∀ j : Nat, j ≠ 71 → ad_691 j = ad_622 j := fun j hj => by obtain ⟨q, e⟩ := hA_694; rw [e]; exact va_up_ne _ _ hj
  have hm_698 : M_692 71 = some (aI G 40 (nF (fun _ => 0))) := by rw [eM_695]; exact va_up_self _ _ _
  have hm_699 : M_692 60 = some (.inr (11, [.int (nI 0), .ref (ad_691 61), .ref (ad_691 62), .ref (ad_691 63), .ref (ad_691 64), .ref (ad_691 65), .ref (ad_691 66), .ref (ad_691 67), .ref (ad_691 68), .ref (ad_691 69), .ref (ad_691 70), .int (nI 0), .null, .null, .null, .int (nI 0), .null, .null, .null, .null, .null, .null, .int (nI 0), .int (nI 0), .int (nI 0), .null, .int (nI 0), .int (nI 0), .int (nI 0), .int (nI 0), .int (nI 0), .null, .null, .null, .null, .null, .null, .null])) := by rw [eM_695, va_up_ne _ _ (by decide), hm_662]; rw [hAd_697 61 (by decide), hAd_697 62 (by decide), hAd_697 63 (by decide), hAd_697 64 (by decide), hAd_697 65 (by decide), hAd_697 66 (by decide), hAd_697 67 (by decide), hAd_697 68 (by decide), hAd_697 69 (by decide), hAd_697 70 (by decide)]
  have hm_700 : M_692 61 = some (aI G 36 (nF (fun _ => 0))) := by rw [eM_695, va_up_ne _ _ (by decide), hm_663]
  have hm_701 : M_692 62 = some (aI G 36 (nF (fun _ => 0))) := by rw [eM_695, va_up_ne _ _ (by decide), hm_664]
  have hm_702 : M_692 63 = some (aI G 36 (nF (fun _ => 0))) := by rw [eM_695, va_up_ne _ _ (by decide), hm_665]
  have hm_703 : M_692 64 = some (aZ G 6 (bF (fun _ => false))) := by rw [eM_695, va_up_ne _ _ (by decide), hm_666]
  have hm_704 : M_692 65 = some (aI G 120 (nF (fun _ => 0))) := by rw [eM_695, va_up_ne _ _ (by decide), hm_667]
  have hm_705 : M_692 66 = some (aI G 120 (nF (fun _ => 0))) := by rw [eM_695, va_up_ne _ _ (by decide), hm_668]
  have hm_706 : M_692 67 = some (aI G 120 (nF (fun _ => 0))) := by rw [eM_695, va_up_ne _ _ (by decide), hm_669]
  have hm_707 : M_692 68 = some (aI G 121 (nF (fun _ => 0))) := by rw [eM_695, va_up_ne _ _ (by decide), hm_670]
  have hm_708 : M_692 69 = some (aI G 726 (nF (fun _ => 0))) := by rw [eM_695, va_up_ne _ _ (by decide), hm_671]
  have hm_709 : M_692 70 = some (aI G 726 (nF (fun _ => 0))) := by rw [eM_695, va_up_ne _ _ (by decide), hm_672]
  have fr_710 : M_692 72 = none := by rw [eM_695, va_up_ne _ _ (by decide)]; exact fr_674
  have fr_711 : M_692 73 = none := by rw [eM_695, va_up_ne _ _ (by decide)]; exact fr_675
  have fr_712 : M_692 74 = none := by rw [eM_695, va_up_ne _ _ (by decide)]; exact fr_676
  have fr_713 : M_692 75 = none := by rw [eM_695, va_up_ne _ _ (by decide)]; exact fr_677
  have fr_714 : M_692 76 = none := by rw [eM_695, va_up_ne _ _ (by decide)]; exact fr_678
  have fr_715 : M_692 77 = none := by rw [eM_695, va_up_ne _ _ (by decide)]; exact fr_679
  have fr_716 : M_692 78 = none := by rw [eM_695, va_up_ne _ _ (by decide)]; exact fr_680
  have fr_717 : M_692 79 = none := by rw [eM_695, va_up_ne _ _ (by decide)]; exact fr_681
  have fr_718 : M_692 80 = none := by rw [eM_695, va_up_ne _ _ (by decide)]; exact fr_682
  have fr_719 : M_692 81 = none := by rw [eM_695, va_up_ne _ _ (by decide)]; exact fr_683
  have fr_720 : M_692 82 = none := by rw [eM_695, va_up_ne _ _ (by decide)]; exact fr_684
  have fr_721 : M_692 83 = none := by rw [eM_695, va_up_ne _ _ (by decide)]; exact fr_685
  have fr_722 : M_692 84 = none := by rw [eM_695, va_up_ne _ _ (by decide)]; exact fr_686
  have fr_723 : M_692 85 = none := by rw [eM_695, va_up_ne _ _ (by decide)]; exact fr_687
  have fr_724 : M_692 86 = none := by rw [eM_695, va_up_ne _ _ (by decide)]; exact fr_688
  have fr_725 : M_692 87 = none := by rw [eM_695, va_up_ne _ _ (by decide)]; exact fr_689
  clear hm_662 hm_663 hm_664 hm_665 hm_666 hm_667 hm_668 hm_669 hm_670 hm_671 hm_672 fr_674 fr_675 fr_676 fr_677 fr_678 fr_679 fr_680 fr_681 fr_682 fr_683 fr_684 fr_685 fr_686 fr_687 fr_688 fr_689
  have hF_726 : ∀ j : Nat, j ≠ 61 → j ≠ 60 → j ≠ 62 → j ≠ 63 → j ≠ 64 → j ≠ 65 → j ≠ 66 → j ≠ 67 → j ≠ 68 → j ≠ 69 → j ≠ 70 → j ≠ 71 → M_692 j = M j := fun j q0 q1 q2 q3 q4 q5 q6 q7 q8 q9 q10 q11 => by rw [eM_695, va_up_ne _ _ q11]; exact hF_690 j q0 q1 q2 q3 q4 q5 q6 q7 q8 q9 q10
  clear hF_690
  refine n_eqs (show ([.ref (ad_691 71), .ref (ad_622 60)] : List Value) = [.ref (ad_691 71), .ref (ad_691 60)] from by rw [hAd_697 60 (by decide)]) ?_
  refine h_putF (C := RX10) (T := TX10) (N := 38) hx hb hts i_RX10 tyX10 tyX10_ok nmX10 hown hI hm_699 rfl 12 (by decide) f_45 rfl rfl hini rfl rfl rfl (Nat.le_of_ble_eq_true rfl) dX10_init_91 (fun M_727 H_728 locs_729 eM_730 hI => ?_)
  have hm_731 : M_727 60 = some (.inr (11, [.int (nI 0), .ref (ad_691 61), .ref (ad_691 62), .ref (ad_691 63), .ref (ad_691 64), .ref (ad_691 65), .ref (ad_691 66), .ref (ad_691 67), .ref (ad_691 68), .ref (ad_691 69), .ref (ad_691 70), .int (nI 0), .ref (ad_691 71), .null, .null, .int (nI 0), .null, .null, .null, .null, .null, .null, .int (nI 0), .int (nI 0), .int (nI 0), .null, .int (nI 0), .int (nI 0), .int (nI 0), .int (nI 0), .int (nI 0), .null, .null, .null, .null, .null, .null, .null])) := by rw [eM_730]; exact va_up_self _ _ _
  have hm_732 : M_727 61 = some (aI G 36 (nF (fun _ => 0))) := by rw [eM_730, va_up_ne _ _ (by decide)]; exact hm_700
  have hm_733 : M_727 62 = some (aI G 36 (nF (fun _ => 0))) := by rw [eM_730, va_up_ne _ _ (by decide)]; exact hm_701
  have hm_734 : M_727 63 = some (aI G 36 (nF (fun _ => 0))) := by rw [eM_730, va_up_ne _ _ (by decide)]; exact hm_702
  have hm_735 : M_727 64 = some (aZ G 6 (bF (fun _ => false))) := by rw [eM_730, va_up_ne _ _ (by decide)]; exact hm_703
  have hm_736 : M_727 65 = some (aI G 120 (nF (fun _ => 0))) := by rw [eM_730, va_up_ne _ _ (by decide)]; exact hm_704
  have hm_737 : M_727 66 = some (aI G 120 (nF (fun _ => 0))) := by rw [eM_730, va_up_ne _ _ (by decide)]; exact hm_705
  have hm_738 : M_727 67 = some (aI G 120 (nF (fun _ => 0))) := by rw [eM_730, va_up_ne _ _ (by decide)]; exact hm_706
  have hm_739 : M_727 68 = some (aI G 121 (nF (fun _ => 0))) := by rw [eM_730, va_up_ne _ _ (by decide)]; exact hm_707
  have hm_740 : M_727 69 = some (aI G 726 (nF (fun _ => 0))) := by rw [eM_730, va_up_ne _ _ (by decide)]; exact hm_708
  have hm_741 : M_727 70 = some (aI G 726 (nF (fun _ => 0))) := by rw [eM_730, va_up_ne _ _ (by decide)]; exact hm_709
  have hm_742 : M_727 71 = some (aI G 40 (nF (fun _ => 0))) := by rw [eM_730, va_up_ne _ _ (by decide)]; exact hm_698
  have fr_743 : M_727 72 = none := by rw [eM_730, va_up_ne _ _ (by decide)]; exact fr_710
  have fr_744 : M_727 73 = none := by rw [eM_730, va_up_ne _ _ (by decide)]; exact fr_711
  have fr_745 : M_727 74 = none := by rw [eM_730, va_up_ne _ _ (by decide)]; exact fr_712
  have fr_746 : M_727 75 = none := by rw [eM_730, va_up_ne _ _ (by decide)]; exact fr_713
  have fr_747 : M_727 76 = none := by rw [eM_730, va_up_ne _ _ (by decide)]; exact fr_714
  have fr_748 : M_727 77 = none := by rw [eM_730, va_up_ne _ _ (by decide)]; exact fr_715
  have fr_749 : M_727 78 = none := by rw [eM_730, va_up_ne _ _ (by decide)]; exact fr_716
  have fr_750 : M_727 79 = none := by rw [eM_730, va_up_ne _ _ (by decide)]; exact fr_717
  have fr_751 : M_727 80 = none := by rw [eM_730, va_up_ne _ _ (by decide)]; exact fr_718
  have fr_752 : M_727 81 = none := by rw [eM_730, va_up_ne _ _ (by decide)]; exact fr_719
  have fr_753 : M_727 82 = none := by rw [eM_730, va_up_ne _ _ (by decide)]; exact fr_720
  have fr_754 : M_727 83 = none := by rw [eM_730, va_up_ne _ _ (by decide)]; exact fr_721
  have fr_755 : M_727 84 = none := by rw [eM_730, va_up_ne _ _ (by decide)]; exact fr_722
  have fr_756 : M_727 85 = none := by rw [eM_730, va_up_ne _ _ (by decide)]; exact fr_723
  have fr_757 : M_727 86 = none := by rw [eM_730, va_up_ne _ _ (by decide)]; exact fr_724
  have fr_758 : M_727 87 = none := by rw [eM_730, va_up_ne _ _ (by decide)]; exact fr_725
  have hF_759 : ∀ j : Nat, j ≠ 61 → j ≠ 60 → j ≠ 62 → j ≠ 63 → j ≠ 64 → j ≠ 65 → j ≠ 66 → j ≠ 67 → j ≠ 68 → j ≠ 69 → j ≠ 70 → j ≠ 71 → M_727 j = M j := fun j q0 q1 q2 q3 q4 q5 q6 q7 q8 q9 q10 q11 => by rw [eM_730, va_up_ne _ _ q1]; exact hF_726 j q0 q1 q2 q3 q4 q5 q6 q7 q8 q9 q10 q11
  clear hm_699 hm_700 hm_701 hm_702 hm_703 hm_704 hm_705 hm_706 hm_707 hm_708 hm_709 hm_698 fr_710 fr_711 fr_712 fr_713 fr_714 fr_715 fr_716 fr_717 fr_718 fr_719 fr_720 fr_721 fr_722 fr_723 fr_724 fr_725 hF_726
  refine lv_aload_n hx hb dX10_init_94 rfl (lv_at hl 0 rfl) ?_
  refine n_eqv (show Value.ref (ad 60) = .ref (ad_691 60) from by rw [hAd_697 60 (by decide), hAd_628 60 (by decide), hAd_559 60 (by decide), hAd_490 60 (by decide), hAd_421 60 (by decide), hAd_352 60 (by decide), hAd_283 60 (by decide), hAd_214 60 (by decide), hAd_145 60 (by decide), hAd_76 60 (by decide), hAd_7 60 (by decide)]) ?_
  refine lv_bipush (v := nI 40) hx hb dX10_init_95 (by decide) ?_
  refine h_newa (atype := .int) (n := 40) (a0 := (40, .inl (nF (fun _ => 0)))) hx hb na_int 0 (ty := .int) rfl rfl (fun C h => by cases h) hI (ha_int 40) (by decide) (by decide) (Nat.le_of_ble_eq_true rfl) (Nat.le_of_ble_eq_true rfl) dX10_init_97 72 fr_743 (fun ad_760 M_761 H_762 hA_763 eM_764 hI => ?_)
  have hAd_766 : ∀ j : Nat, j ≠ 72 → ad_760 j = ad_691 j := fun j hj => by obtain ⟨q, e⟩ := hA_763; rw [e]; exact va_up_ne _ _ hj
  have hm_767 : M_761 72 = some (aI G 40 (nF (fun _ => 0))) := by rw [eM_764]; exact va_up_self _ _ _
  have hm_768 : M_761 60 = some (.inr (11, [.int (nI 0), .ref (ad_760 61), .ref (ad_760 62), .ref (ad_760 63), .ref (ad_760 64), .ref (ad_760 65), .ref (ad_760 66), .ref (ad_760 67), .ref (ad_760 68), .ref (ad_760 69), .ref (ad_760 70), .int (nI 0), .ref (ad_760 71), .null, .null, .int (nI 0), .null, .null, .null, .null, .null, .null, .int (nI 0), .int (nI 0), .int (nI 0), .null, .int (nI 0), .int (nI 0), .int (nI 0), .int (nI 0), .int (nI 0), .null, .null, .null, .null, .null, .null, .null])) := by rw [eM_764, va_up_ne _ _ (by decide), hm_731]; rw [hAd_766 61 (by decide), hAd_766 62 (by decide), hAd_766 63 (by decide), hAd_766 64 (by decide), hAd_766 65 (by decide), hAd_766 66 (by decide), hAd_766 67 (by decide), hAd_766 68 (by decide), hAd_766 69 (by decide), hAd_766 70 (by decide), hAd_766 71 (by decide)]
  have hm_769 : M_761 61 = some (aI G 36 (nF (fun _ => 0))) := by rw [eM_764, va_up_ne _ _ (by decide), hm_732]
  have hm_770 : M_761 62 = some (aI G 36 (nF (fun _ => 0))) := by rw [eM_764, va_up_ne _ _ (by decide), hm_733]
  have hm_771 : M_761 63 = some (aI G 36 (nF (fun _ => 0))) := by rw [eM_764, va_up_ne _ _ (by decide), hm_734]
  have hm_772 : M_761 64 = some (aZ G 6 (bF (fun _ => false))) := by rw [eM_764, va_up_ne _ _ (by decide), hm_735]
  have hm_773 : M_761 65 = some (aI G 120 (nF (fun _ => 0))) := by rw [eM_764, va_up_ne _ _ (by decide), hm_736]
  have hm_774 : M_761 66 = some (aI G 120 (nF (fun _ => 0))) := by rw [eM_764, va_up_ne _ _ (by decide), hm_737]
  have hm_775 : M_761 67 = some (aI G 120 (nF (fun _ => 0))) := by rw [eM_764, va_up_ne _ _ (by decide), hm_738]
  have hm_776 : M_761 68 = some (aI G 121 (nF (fun _ => 0))) := by rw [eM_764, va_up_ne _ _ (by decide), hm_739]
  have hm_777 : M_761 69 = some (aI G 726 (nF (fun _ => 0))) := by rw [eM_764, va_up_ne _ _ (by decide), hm_740]
  have hm_778 : M_761 70 = some (aI G 726 (nF (fun _ => 0))) := by rw [eM_764, va_up_ne _ _ (by decide), hm_741]
  have hm_779 : M_761 71 = some (aI G 40 (nF (fun _ => 0))) := by rw [eM_764, va_up_ne _ _ (by decide), hm_742]
  have fr_780 : M_761 73 = none := by rw [eM_764, va_up_ne _ _ (by decide)]; exact fr_744
  have fr_781 : M_761 74 = none := by rw [eM_764, va_up_ne _ _ (by decide)]; exact fr_745
  have fr_782 : M_761 75 = none := by rw [eM_764, va_up_ne _ _ (by decide)]; exact fr_746
  have fr_783 : M_761 76 = none := by rw [eM_764, va_up_ne _ _ (by decide)]; exact fr_747
  have fr_784 : M_761 77 = none := by rw [eM_764, va_up_ne _ _ (by decide)]; exact fr_748
  have fr_785 : M_761 78 = none := by rw [eM_764, va_up_ne _ _ (by decide)]; exact fr_749
  have fr_786 : M_761 79 = none := by rw [eM_764, va_up_ne _ _ (by decide)]; exact fr_750
  have fr_787 : M_761 80 = none := by rw [eM_764, va_up_ne _ _ (by decide)]; exact fr_751
  have fr_788 : M_761 81 = none := by rw [eM_764, va_up_ne _ _ (by decide)]; exact fr_752
  have fr_789 : M_761 82 = none := by rw [eM_764, va_up_ne _ _ (by decide)]; exact fr_753
  have fr_790 : M_761 83 = none := by rw [eM_764, va_up_ne _ _ (by decide)]; exact fr_754
  have fr_791 : M_761 84 = none := by rw [eM_764, va_up_ne _ _ (by decide)]; exact fr_755
  have fr_792 : M_761 85 = none := by rw [eM_764, va_up_ne _ _ (by decide)]; exact fr_756
  have fr_793 : M_761 86 = none := by rw [eM_764, va_up_ne _ _ (by decide)]; exact fr_757
  have fr_794 : M_761 87 = none := by rw [eM_764, va_up_ne _ _ (by decide)]; exact fr_758
  clear hm_731 hm_732 hm_733 hm_734 hm_735 hm_736 hm_737 hm_738 hm_739 hm_740 hm_741 hm_742 fr_744 fr_745 fr_746 fr_747 fr_748 fr_749 fr_750 fr_751 fr_752 fr_753 fr_754 fr_755 fr_756 fr_757 fr_758
  have hF_795 : ∀ j : Nat, j ≠ 61 → j ≠ 60 → j ≠ 62 → j ≠ 63 → j ≠ 64 → j ≠ 65 → j ≠ 66 → j ≠ 67 → j ≠ 68 → j ≠ 69 → j ≠ 70 → j ≠ 71 → j ≠ 72 → M_761 j = M j := fun j q0 q1 q2 q3 q4 q5 q6 q7 q8 q9 q10 q11 q12 => by rw [eM_764, va_up_ne _ _ q12]; exact hF_759 j q0 q1 q2 q3 q4 q5 q6 q7 q8 q9 q10 q11
  clear hF_759
  refine n_eqs (show ([.ref (ad_760 72), .ref (ad_691 60)] : List Value) = [.ref (ad_760 72), .ref (ad_760 60)] from by rw [hAd_766 60 (by decide)]) ?_
  refine h_putF (C := RX10) (T := TX10) (N := 38) hx hb hts i_RX10 tyX10 tyX10_ok nmX10 hown hI hm_768 rfl 13 (by decide) f_48 rfl rfl hini rfl rfl rfl (Nat.le_of_ble_eq_true rfl) dX10_init_99 (fun M_796 H_797 locs_798 eM_799 hI => ?_)
  have hm_800 : M_796 60 = some (.inr (11, [.int (nI 0), .ref (ad_760 61), .ref (ad_760 62), .ref (ad_760 63), .ref (ad_760 64), .ref (ad_760 65), .ref (ad_760 66), .ref (ad_760 67), .ref (ad_760 68), .ref (ad_760 69), .ref (ad_760 70), .int (nI 0), .ref (ad_760 71), .ref (ad_760 72), .null, .int (nI 0), .null, .null, .null, .null, .null, .null, .int (nI 0), .int (nI 0), .int (nI 0), .null, .int (nI 0), .int (nI 0), .int (nI 0), .int (nI 0), .int (nI 0), .null, .null, .null, .null, .null, .null, .null])) := by rw [eM_799]; exact va_up_self _ _ _
  have hm_801 : M_796 61 = some (aI G 36 (nF (fun _ => 0))) := by rw [eM_799, va_up_ne _ _ (by decide)]; exact hm_769
  have hm_802 : M_796 62 = some (aI G 36 (nF (fun _ => 0))) := by rw [eM_799, va_up_ne _ _ (by decide)]; exact hm_770
  have hm_803 : M_796 63 = some (aI G 36 (nF (fun _ => 0))) := by rw [eM_799, va_up_ne _ _ (by decide)]; exact hm_771
  have hm_804 : M_796 64 = some (aZ G 6 (bF (fun _ => false))) := by rw [eM_799, va_up_ne _ _ (by decide)]; exact hm_772
  have hm_805 : M_796 65 = some (aI G 120 (nF (fun _ => 0))) := by rw [eM_799, va_up_ne _ _ (by decide)]; exact hm_773
  have hm_806 : M_796 66 = some (aI G 120 (nF (fun _ => 0))) := by rw [eM_799, va_up_ne _ _ (by decide)]; exact hm_774
  have hm_807 : M_796 67 = some (aI G 120 (nF (fun _ => 0))) := by rw [eM_799, va_up_ne _ _ (by decide)]; exact hm_775
  have hm_808 : M_796 68 = some (aI G 121 (nF (fun _ => 0))) := by rw [eM_799, va_up_ne _ _ (by decide)]; exact hm_776
  have hm_809 : M_796 69 = some (aI G 726 (nF (fun _ => 0))) := by rw [eM_799, va_up_ne _ _ (by decide)]; exact hm_777
  have hm_810 : M_796 70 = some (aI G 726 (nF (fun _ => 0))) := by rw [eM_799, va_up_ne _ _ (by decide)]; exact hm_778
  have hm_811 : M_796 71 = some (aI G 40 (nF (fun _ => 0))) := by rw [eM_799, va_up_ne _ _ (by decide)]; exact hm_779
  have hm_812 : M_796 72 = some (aI G 40 (nF (fun _ => 0))) := by rw [eM_799, va_up_ne _ _ (by decide)]; exact hm_767
  have fr_813 : M_796 73 = none := by rw [eM_799, va_up_ne _ _ (by decide)]; exact fr_780
  have fr_814 : M_796 74 = none := by rw [eM_799, va_up_ne _ _ (by decide)]; exact fr_781
  have fr_815 : M_796 75 = none := by rw [eM_799, va_up_ne _ _ (by decide)]; exact fr_782
  have fr_816 : M_796 76 = none := by rw [eM_799, va_up_ne _ _ (by decide)]; exact fr_783
  have fr_817 : M_796 77 = none := by rw [eM_799, va_up_ne _ _ (by decide)]; exact fr_784
  have fr_818 : M_796 78 = none := by rw [eM_799, va_up_ne _ _ (by decide)]; exact fr_785
  have fr_819 : M_796 79 = none := by rw [eM_799, va_up_ne _ _ (by decide)]; exact fr_786
  have fr_820 : M_796 80 = none := by rw [eM_799, va_up_ne _ _ (by decide)]; exact fr_787
  have fr_821 : M_796 81 = none := by rw [eM_799, va_up_ne _ _ (by decide)]; exact fr_788
  have fr_822 : M_796 82 = none := by rw [eM_799, va_up_ne _ _ (by decide)]; exact fr_789
  have fr_823 : M_796 83 = none := by rw [eM_799, va_up_ne _ _ (by decide)]; exact fr_790
  have fr_824 : M_796 84 = none := by rw [eM_799, va_up_ne _ _ (by decide)]; exact fr_791
  have fr_825 : M_796 85 = none := by rw [eM_799, va_up_ne _ _ (by decide)]; exact fr_792
  have fr_826 : M_796 86 = none := by rw [eM_799, va_up_ne _ _ (by decide)]; exact fr_793
  have fr_827 : M_796 87 = none := by rw [eM_799, va_up_ne _ _ (by decide)]; exact fr_794
  have hF_828 : ∀ j : Nat, j ≠ 61 → j ≠ 60 → j ≠ 62 → j ≠ 63 → j ≠ 64 → j ≠ 65 → j ≠ 66 → j ≠ 67 → j ≠ 68 → j ≠ 69 → j ≠ 70 → j ≠ 71 → j ≠ 72 → M_796 j = M j := fun j q0 q1 q2 q3 q4 q5 q6 q7 q8 q9 q10 q11 q12 => by rw [eM_799, va_up_ne _ _ q1]; exact hF_795 j q0 q1 q2 q3 q4 q5 q6 q7 q8 q9 q10 q11 q12
  clear hm_768 hm_769 hm_770 hm_771 hm_772 hm_773 hm_774 hm_775 hm_776 hm_777 hm_778 hm_779 hm_767 fr_780 fr_781 fr_782 fr_783 fr_784 fr_785 fr_786 fr_787 fr_788 fr_789 fr_790 fr_791 fr_792 fr_793 fr_794 hF_795
  refine lv_aload_n hx hb dX10_init_102 rfl (lv_at hl 0 rfl) ?_
  refine n_eqv (show Value.ref (ad 60) = .ref (ad_760 60) from by rw [hAd_766 60 (by decide), hAd_697 60 (by decide), hAd_628 60 (by decide), hAd_559 60 (by decide), hAd_490 60 (by decide), hAd_421 60 (by decide), hAd_352 60 (by decide), hAd_283 60 (by decide), hAd_214 60 (by decide), hAd_145 60 (by decide), hAd_76 60 (by decide), hAd_7 60 (by decide)]) ?_
  refine lv_bipush (v := nI 40) hx hb dX10_init_103 (by decide) ?_
  refine h_newa (atype := .int) (n := 40) (a0 := (40, .inl (nF (fun _ => 0)))) hx hb na_int 0 (ty := .int) rfl rfl (fun C h => by cases h) hI (ha_int 40) (by decide) (by decide) (Nat.le_of_ble_eq_true rfl) (Nat.le_of_ble_eq_true rfl) dX10_init_105 73 fr_813 (fun ad_829 M_830 H_831 hA_832 eM_833 hI => ?_)
  have hAd_835 : ∀ j : Nat, j ≠ 73 → ad_829 j = ad_760 j := fun j hj => by obtain ⟨q, e⟩ := hA_832; rw [e]; exact va_up_ne _ _ hj
  have hm_836 : M_830 73 = some (aI G 40 (nF (fun _ => 0))) := by rw [eM_833]; exact va_up_self _ _ _
  have hm_837 : M_830 60 = some (.inr (11, [.int (nI 0), .ref (ad_829 61), .ref (ad_829 62), .ref (ad_829 63), .ref (ad_829 64), .ref (ad_829 65), .ref (ad_829 66), .ref (ad_829 67), .ref (ad_829 68), .ref (ad_829 69), .ref (ad_829 70), .int (nI 0), .ref (ad_829 71), .ref (ad_829 72), .null, .int (nI 0), .null, .null, .null, .null, .null, .null, .int (nI 0), .int (nI 0), .int (nI 0), .null, .int (nI 0), .int (nI 0), .int (nI 0), .int (nI 0), .int (nI 0), .null, .null, .null, .null, .null, .null, .null])) := by rw [eM_833, va_up_ne _ _ (by decide), hm_800]; rw [hAd_835 61 (by decide), hAd_835 62 (by decide), hAd_835 63 (by decide), hAd_835 64 (by decide), hAd_835 65 (by decide), hAd_835 66 (by decide), hAd_835 67 (by decide), hAd_835 68 (by decide), hAd_835 69 (by decide), hAd_835 70 (by decide), hAd_835 71 (by decide), hAd_835 72 (by decide)]
  have hm_838 : M_830 61 = some (aI G 36 (nF (fun _ => 0))) := by rw [eM_833, va_up_ne _ _ (by decide), hm_801]
  have hm_839 : M_830 62 = some (aI G 36 (nF (fun _ => 0))) := by rw [eM_833, va_up_ne _ _ (by decide), hm_802]
  have hm_840 : M_830 63 = some (aI G 36 (nF (fun _ => 0))) := by rw [eM_833, va_up_ne _ _ (by decide), hm_803]
  have hm_841 : M_830 64 = some (aZ G 6 (bF (fun _ => false))) := by rw [eM_833, va_up_ne _ _ (by decide), hm_804]
  have hm_842 : M_830 65 = some (aI G 120 (nF (fun _ => 0))) := by rw [eM_833, va_up_ne _ _ (by decide), hm_805]
  have hm_843 : M_830 66 = some (aI G 120 (nF (fun _ => 0))) := by rw [eM_833, va_up_ne _ _ (by decide), hm_806]
  have hm_844 : M_830 67 = some (aI G 120 (nF (fun _ => 0))) := by rw [eM_833, va_up_ne _ _ (by decide), hm_807]
  have hm_845 : M_830 68 = some (aI G 121 (nF (fun _ => 0))) := by rw [eM_833, va_up_ne _ _ (by decide), hm_808]
  have hm_846 : M_830 69 = some (aI G 726 (nF (fun _ => 0))) := by rw [eM_833, va_up_ne _ _ (by decide), hm_809]
  have hm_847 : M_830 70 = some (aI G 726 (nF (fun _ => 0))) := by rw [eM_833, va_up_ne _ _ (by decide), hm_810]
  have hm_848 : M_830 71 = some (aI G 40 (nF (fun _ => 0))) := by rw [eM_833, va_up_ne _ _ (by decide), hm_811]
  have hm_849 : M_830 72 = some (aI G 40 (nF (fun _ => 0))) := by rw [eM_833, va_up_ne _ _ (by decide), hm_812]
  have fr_850 : M_830 74 = none := by rw [eM_833, va_up_ne _ _ (by decide)]; exact fr_814
  have fr_851 : M_830 75 = none := by rw [eM_833, va_up_ne _ _ (by decide)]; exact fr_815
  have fr_852 : M_830 76 = none := by rw [eM_833, va_up_ne _ _ (by decide)]; exact fr_816
  have fr_853 : M_830 77 = none := by rw [eM_833, va_up_ne _ _ (by decide)]; exact fr_817
  have fr_854 : M_830 78 = none := by rw [eM_833, va_up_ne _ _ (by decide)]; exact fr_818
  have fr_855 : M_830 79 = none := by rw [eM_833, va_up_ne _ _ (by decide)]; exact fr_819
  have fr_856 : M_830 80 = none := by rw [eM_833, va_up_ne _ _ (by decide)]; exact fr_820
  have fr_857 : M_830 81 = none := by rw [eM_833, va_up_ne _ _ (by decide)]; exact fr_821
  have fr_858 : M_830 82 = none := by rw [eM_833, va_up_ne _ _ (by decide)]; exact fr_822
  have fr_859 : M_830 83 = none := by rw [eM_833, va_up_ne _ _ (by decide)]; exact fr_823
  have fr_860 : M_830 84 = none := by rw [eM_833, va_up_ne _ _ (by decide)]; exact fr_824
  have fr_861 : M_830 85 = none := by rw [eM_833, va_up_ne _ _ (by decide)]; exact fr_825
  have fr_862 : M_830 86 = none := by rw [eM_833, va_up_ne _ _ (by decide)]; exact fr_826
  have fr_863 : M_830 87 = none := by rw [eM_833, va_up_ne _ _ (by decide)]; exact fr_827
  clear hm_800 hm_801 hm_802 hm_803 hm_804 hm_805 hm_806 hm_807 hm_808 hm_809 hm_810 hm_811 hm_812 fr_814 fr_815 fr_816 fr_817 fr_818 fr_819 fr_820 fr_821 fr_822 fr_823 fr_824 fr_825 fr_826 fr_827
  have hF_864 : ∀ j : Nat, j ≠ 61 → j ≠ 60 → j ≠ 62 → j ≠ 63 → j ≠ 64 → j ≠ 65 → j ≠ 66 → j ≠ 67 → j ≠ 68 → j ≠ 69 → j ≠ 70 → j ≠ 71 → j ≠ 72 → j ≠ 73 → M_830 j = M j := fun j q0 q1 q2 q3 q4 q5 q6 q7 q8 q9 q10 q11 q12 q13 => by rw [eM_833, va_up_ne _ _ q13]; exact hF_828 j q0 q1 q2 q3 q4 q5 q6 q7 q8 q9 q10 q11 q12
  clear hF_828
  refine n_eqs (show ([.ref (ad_829 73), .ref (ad_760 60)] : List Value) = [.ref (ad_829 73), .ref (ad_829 60)] from by rw [hAd_835 60 (by decide)]) ?_
  refine h_putF (C := RX10) (T := TX10) (N := 38) hx hb hts i_RX10 tyX10 tyX10_ok nmX10 hown hI hm_837 rfl 14 (by decide) f_51 rfl rfl hini rfl rfl rfl (Nat.le_of_ble_eq_true rfl) dX10_init_107 (fun M_865 H_866 locs_867 eM_868 hI => ?_)
  have hm_869 : M_865 60 = some (.inr (11, [.int (nI 0), .ref (ad_829 61), .ref (ad_829 62), .ref (ad_829 63), .ref (ad_829 64), .ref (ad_829 65), .ref (ad_829 66), .ref (ad_829 67), .ref (ad_829 68), .ref (ad_829 69), .ref (ad_829 70), .int (nI 0), .ref (ad_829 71), .ref (ad_829 72), .ref (ad_829 73), .int (nI 0), .null, .null, .null, .null, .null, .null, .int (nI 0), .int (nI 0), .int (nI 0), .null, .int (nI 0), .int (nI 0), .int (nI 0), .int (nI 0), .int (nI 0), .null, .null, .null, .null, .null, .null, .null])) := by rw [eM_868]; exact va_up_self _ _ _
  have hm_870 : M_865 61 = some (aI G 36 (nF (fun _ => 0))) := by rw [eM_868, va_up_ne _ _ (by decide)]; exact hm_838
  have hm_871 : M_865 62 = some (aI G 36 (nF (fun _ => 0))) := by rw [eM_868, va_up_ne _ _ (by decide)]; exact hm_839
  have hm_872 : M_865 63 = some (aI G 36 (nF (fun _ => 0))) := by rw [eM_868, va_up_ne _ _ (by decide)]; exact hm_840
  have hm_873 : M_865 64 = some (aZ G 6 (bF (fun _ => false))) := by rw [eM_868, va_up_ne _ _ (by decide)]; exact hm_841
  have hm_874 : M_865 65 = some (aI G 120 (nF (fun _ => 0))) := by rw [eM_868, va_up_ne _ _ (by decide)]; exact hm_842
  have hm_875 : M_865 66 = some (aI G 120 (nF (fun _ => 0))) := by rw [eM_868, va_up_ne _ _ (by decide)]; exact hm_843
  have hm_876 : M_865 67 = some (aI G 120 (nF (fun _ => 0))) := by rw [eM_868, va_up_ne _ _ (by decide)]; exact hm_844
  have hm_877 : M_865 68 = some (aI G 121 (nF (fun _ => 0))) := by rw [eM_868, va_up_ne _ _ (by decide)]; exact hm_845
  have hm_878 : M_865 69 = some (aI G 726 (nF (fun _ => 0))) := by rw [eM_868, va_up_ne _ _ (by decide)]; exact hm_846
  have hm_879 : M_865 70 = some (aI G 726 (nF (fun _ => 0))) := by rw [eM_868, va_up_ne _ _ (by decide)]; exact hm_847
  have hm_880 : M_865 71 = some (aI G 40 (nF (fun _ => 0))) := by rw [eM_868, va_up_ne _ _ (by decide)]; exact hm_848
  have hm_881 : M_865 72 = some (aI G 40 (nF (fun _ => 0))) := by rw [eM_868, va_up_ne _ _ (by decide)]; exact hm_849
  have hm_882 : M_865 73 = some (aI G 40 (nF (fun _ => 0))) := by rw [eM_868, va_up_ne _ _ (by decide)]; exact hm_836
  have fr_883 : M_865 74 = none := by rw [eM_868, va_up_ne _ _ (by decide)]; exact fr_850
  have fr_884 : M_865 75 = none := by rw [eM_868, va_up_ne _ _ (by decide)]; exact fr_851
  have fr_885 : M_865 76 = none := by rw [eM_868, va_up_ne _ _ (by decide)]; exact fr_852
  have fr_886 : M_865 77 = none := by rw [eM_868, va_up_ne _ _ (by decide)]; exact fr_853
  have fr_887 : M_865 78 = none := by rw [eM_868, va_up_ne _ _ (by decide)]; exact fr_854
  have fr_888 : M_865 79 = none := by rw [eM_868, va_up_ne _ _ (by decide)]; exact fr_855
  have fr_889 : M_865 80 = none := by rw [eM_868, va_up_ne _ _ (by decide)]; exact fr_856
  have fr_890 : M_865 81 = none := by rw [eM_868, va_up_ne _ _ (by decide)]; exact fr_857
  have fr_891 : M_865 82 = none := by rw [eM_868, va_up_ne _ _ (by decide)]; exact fr_858
  have fr_892 : M_865 83 = none := by rw [eM_868, va_up_ne _ _ (by decide)]; exact fr_859
  have fr_893 : M_865 84 = none := by rw [eM_868, va_up_ne _ _ (by decide)]; exact fr_860
  have fr_894 : M_865 85 = none := by rw [eM_868, va_up_ne _ _ (by decide)]; exact fr_861
  have fr_895 : M_865 86 = none := by rw [eM_868, va_up_ne _ _ (by decide)]; exact fr_862
  have fr_896 : M_865 87 = none := by rw [eM_868, va_up_ne _ _ (by decide)]; exact fr_863
  have hF_897 : ∀ j : Nat, j ≠ 61 → j ≠ 60 → j ≠ 62 → j ≠ 63 → j ≠ 64 → j ≠ 65 → j ≠ 66 → j ≠ 67 → j ≠ 68 → j ≠ 69 → j ≠ 70 → j ≠ 71 → j ≠ 72 → j ≠ 73 → M_865 j = M j := fun j q0 q1 q2 q3 q4 q5 q6 q7 q8 q9 q10 q11 q12 q13 => by rw [eM_868, va_up_ne _ _ q1]; exact hF_864 j q0 q1 q2 q3 q4 q5 q6 q7 q8 q9 q10 q11 q12 q13
  clear hm_837 hm_838 hm_839 hm_840 hm_841 hm_842 hm_843 hm_844 hm_845 hm_846 hm_847 hm_848 hm_849 hm_836 fr_850 fr_851 fr_852 fr_853 fr_854 fr_855 fr_856 fr_857 fr_858 fr_859 fr_860 fr_861 fr_862 fr_863 hF_864
  refine lv_aload_n hx hb dX10_init_110 rfl (lv_at hl 0 rfl) ?_
  refine n_eqv (show Value.ref (ad 60) = .ref (ad_829 60) from by rw [hAd_835 60 (by decide), hAd_766 60 (by decide), hAd_697 60 (by decide), hAd_628 60 (by decide), hAd_559 60 (by decide), hAd_490 60 (by decide), hAd_421 60 (by decide), hAd_352 60 (by decide), hAd_283 60 (by decide), hAd_214 60 (by decide), hAd_145 60 (by decide), hAd_76 60 (by decide), hAd_7 60 (by decide)]) ?_
  refine lv_bipush (v := nI 120) hx hb dX10_init_111 (by decide) ?_
  refine h_newa (atype := .int) (n := 120) (a0 := (120, .inl (nF (fun _ => 0)))) hx hb na_int 0 (ty := .int) rfl rfl (fun C h => by cases h) hI (ha_int 120) (by decide) (by decide) (Nat.le_of_ble_eq_true rfl) (Nat.le_of_ble_eq_true rfl) dX10_init_113 74 fr_883 (fun ad_898 M_899 H_900 hA_901 eM_902 hI => ?_)
  have hAd_904 : ∀ j : Nat, j ≠ 74 → ad_898 j = ad_829 j := fun j hj => by obtain ⟨q, e⟩ := hA_901; rw [e]; exact va_up_ne _ _ hj
  have hm_905 : M_899 74 = some (aI G 120 (nF (fun _ => 0))) := by rw [eM_902]; exact va_up_self _ _ _
  have hm_906 : M_899 60 = some (.inr (11, [.int (nI 0), .ref (ad_898 61), .ref (ad_898 62), .ref (ad_898 63), .ref (ad_898 64), .ref (ad_898 65), .ref (ad_898 66), .ref (ad_898 67), .ref (ad_898 68), .ref (ad_898 69), .ref (ad_898 70), .int (nI 0), .ref (ad_898 71), .ref (ad_898 72), .ref (ad_898 73), .int (nI 0), .null, .null, .null, .null, .null, .null, .int (nI 0), .int (nI 0), .int (nI 0), .null, .int (nI 0), .int (nI 0), .int (nI 0), .int (nI 0), .int (nI 0), .null, .null, .null, .null, .null, .null, .null])) := by rw [eM_902, va_up_ne _ _ (by decide), hm_869]; rw [hAd_904 61 (by decide), hAd_904 62 (by decide), hAd_904 63 (by decide), hAd_904 64 (by decide), hAd_904 65 (by decide), hAd_904 66 (by decide), hAd_904 67 (by decide), hAd_904 68 (by decide), hAd_904 69 (by decide), hAd_904 70 (by decide), hAd_904 71 (by decide), hAd_904 72 (by decide), hAd_904 73 (by decide)]
  have hm_907 : M_899 61 = some (aI G 36 (nF (fun _ => 0))) := by rw [eM_902, va_up_ne _ _ (by decide), hm_870]
  have hm_908 : M_899 62 = some (aI G 36 (nF (fun _ => 0))) := by rw [eM_902, va_up_ne _ _ (by decide), hm_871]
  have hm_909 : M_899 63 = some (aI G 36 (nF (fun _ => 0))) := by rw [eM_902, va_up_ne _ _ (by decide), hm_872]
  have hm_910 : M_899 64 = some (aZ G 6 (bF (fun _ => false))) := by rw [eM_902, va_up_ne _ _ (by decide), hm_873]
  have hm_911 : M_899 65 = some (aI G 120 (nF (fun _ => 0))) := by rw [eM_902, va_up_ne _ _ (by decide), hm_874]
  have hm_912 : M_899 66 = some (aI G 120 (nF (fun _ => 0))) := by rw [eM_902, va_up_ne _ _ (by decide), hm_875]
  have hm_913 : M_899 67 = some (aI G 120 (nF (fun _ => 0))) := by rw [eM_902, va_up_ne _ _ (by decide), hm_876]
  have hm_914 : M_899 68 = some (aI G 121 (nF (fun _ => 0))) := by rw [eM_902, va_up_ne _ _ (by decide), hm_877]
  have hm_915 : M_899 69 = some (aI G 726 (nF (fun _ => 0))) := by rw [eM_902, va_up_ne _ _ (by decide), hm_878]
  have hm_916 : M_899 70 = some (aI G 726 (nF (fun _ => 0))) := by rw [eM_902, va_up_ne _ _ (by decide), hm_879]
  have hm_917 : M_899 71 = some (aI G 40 (nF (fun _ => 0))) := by rw [eM_902, va_up_ne _ _ (by decide), hm_880]
  have hm_918 : M_899 72 = some (aI G 40 (nF (fun _ => 0))) := by rw [eM_902, va_up_ne _ _ (by decide), hm_881]
  have hm_919 : M_899 73 = some (aI G 40 (nF (fun _ => 0))) := by rw [eM_902, va_up_ne _ _ (by decide), hm_882]
  have fr_920 : M_899 75 = none := by rw [eM_902, va_up_ne _ _ (by decide)]; exact fr_884
  have fr_921 : M_899 76 = none := by rw [eM_902, va_up_ne _ _ (by decide)]; exact fr_885
  have fr_922 : M_899 77 = none := by rw [eM_902, va_up_ne _ _ (by decide)]; exact fr_886
  have fr_923 : M_899 78 = none := by rw [eM_902, va_up_ne _ _ (by decide)]; exact fr_887
  have fr_924 : M_899 79 = none := by rw [eM_902, va_up_ne _ _ (by decide)]; exact fr_888
  have fr_925 : M_899 80 = none := by rw [eM_902, va_up_ne _ _ (by decide)]; exact fr_889
  have fr_926 : M_899 81 = none := by rw [eM_902, va_up_ne _ _ (by decide)]; exact fr_890
  have fr_927 : M_899 82 = none := by rw [eM_902, va_up_ne _ _ (by decide)]; exact fr_891
  have fr_928 : M_899 83 = none := by rw [eM_902, va_up_ne _ _ (by decide)]; exact fr_892
  have fr_929 : M_899 84 = none := by rw [eM_902, va_up_ne _ _ (by decide)]; exact fr_893
  have fr_930 : M_899 85 = none := by rw [eM_902, va_up_ne _ _ (by decide)]; exact fr_894
  have fr_931 : M_899 86 = none := by rw [eM_902, va_up_ne _ _ (by decide)]; exact fr_895
  have fr_932 : M_899 87 = none := by rw [eM_902, va_up_ne _ _ (by decide)]; exact fr_896
  clear hm_869 hm_870 hm_871 hm_872 hm_873 hm_874 hm_875 hm_876 hm_877 hm_878 hm_879 hm_880 hm_881 hm_882 fr_884 fr_885 fr_886 fr_887 fr_888 fr_889 fr_890 fr_891 fr_892 fr_893 fr_894 fr_895 fr_896
  have hF_933 : ∀ j : Nat, j ≠ 61 → j ≠ 60 → j ≠ 62 → j ≠ 63 → j ≠ 64 → j ≠ 65 → j ≠ 66 → j ≠ 67 → j ≠ 68 → j ≠ 69 → j ≠ 70 → j ≠ 71 → j ≠ 72 → j ≠ 73 → j ≠ 74 → M_899 j = M j := fun j q0 q1 q2 q3 q4 q5 q6 q7 q8 q9 q10 q11 q12 q13 q14 => by rw [eM_902, va_up_ne _ _ q14]; exact hF_897 j q0 q1 q2 q3 q4 q5 q6 q7 q8 q9 q10 q11 q12 q13
  clear hF_897
  refine n_eqs (show ([.ref (ad_898 74), .ref (ad_829 60)] : List Value) = [.ref (ad_898 74), .ref (ad_898 60)] from by rw [hAd_904 60 (by decide)]) ?_
  refine h_putF (C := RX10) (T := TX10) (N := 38) hx hb hts i_RX10 tyX10 tyX10_ok nmX10 hown hI hm_906 rfl 16 (by decide) f_54 rfl rfl hini rfl rfl rfl (Nat.le_of_ble_eq_true rfl) dX10_init_115 (fun M_934 H_935 locs_936 eM_937 hI => ?_)
  have hm_938 : M_934 60 = some (.inr (11, [.int (nI 0), .ref (ad_898 61), .ref (ad_898 62), .ref (ad_898 63), .ref (ad_898 64), .ref (ad_898 65), .ref (ad_898 66), .ref (ad_898 67), .ref (ad_898 68), .ref (ad_898 69), .ref (ad_898 70), .int (nI 0), .ref (ad_898 71), .ref (ad_898 72), .ref (ad_898 73), .int (nI 0), .ref (ad_898 74), .null, .null, .null, .null, .null, .int (nI 0), .int (nI 0), .int (nI 0), .null, .int (nI 0), .int (nI 0), .int (nI 0), .int (nI 0), .int (nI 0), .null, .null, .null, .null, .null, .null, .null])) := by rw [eM_937]; exact va_up_self _ _ _
  have hm_939 : M_934 61 = some (aI G 36 (nF (fun _ => 0))) := by rw [eM_937, va_up_ne _ _ (by decide)]; exact hm_907
  have hm_940 : M_934 62 = some (aI G 36 (nF (fun _ => 0))) := by rw [eM_937, va_up_ne _ _ (by decide)]; exact hm_908
  have hm_941 : M_934 63 = some (aI G 36 (nF (fun _ => 0))) := by rw [eM_937, va_up_ne _ _ (by decide)]; exact hm_909
  have hm_942 : M_934 64 = some (aZ G 6 (bF (fun _ => false))) := by rw [eM_937, va_up_ne _ _ (by decide)]; exact hm_910
  have hm_943 : M_934 65 = some (aI G 120 (nF (fun _ => 0))) := by rw [eM_937, va_up_ne _ _ (by decide)]; exact hm_911
  have hm_944 : M_934 66 = some (aI G 120 (nF (fun _ => 0))) := by rw [eM_937, va_up_ne _ _ (by decide)]; exact hm_912
  have hm_945 : M_934 67 = some (aI G 120 (nF (fun _ => 0))) := by rw [eM_937, va_up_ne _ _ (by decide)]; exact hm_913
  have hm_946 : M_934 68 = some (aI G 121 (nF (fun _ => 0))) := by rw [eM_937, va_up_ne _ _ (by decide)]; exact hm_914
  have hm_947 : M_934 69 = some (aI G 726 (nF (fun _ => 0))) := by rw [eM_937, va_up_ne _ _ (by decide)]; exact hm_915
  have hm_948 : M_934 70 = some (aI G 726 (nF (fun _ => 0))) := by rw [eM_937, va_up_ne _ _ (by decide)]; exact hm_916
  have hm_949 : M_934 71 = some (aI G 40 (nF (fun _ => 0))) := by rw [eM_937, va_up_ne _ _ (by decide)]; exact hm_917
  have hm_950 : M_934 72 = some (aI G 40 (nF (fun _ => 0))) := by rw [eM_937, va_up_ne _ _ (by decide)]; exact hm_918
  have hm_951 : M_934 73 = some (aI G 40 (nF (fun _ => 0))) := by rw [eM_937, va_up_ne _ _ (by decide)]; exact hm_919
  have hm_952 : M_934 74 = some (aI G 120 (nF (fun _ => 0))) := by rw [eM_937, va_up_ne _ _ (by decide)]; exact hm_905
  have fr_953 : M_934 75 = none := by rw [eM_937, va_up_ne _ _ (by decide)]; exact fr_920
  have fr_954 : M_934 76 = none := by rw [eM_937, va_up_ne _ _ (by decide)]; exact fr_921
  have fr_955 : M_934 77 = none := by rw [eM_937, va_up_ne _ _ (by decide)]; exact fr_922
  have fr_956 : M_934 78 = none := by rw [eM_937, va_up_ne _ _ (by decide)]; exact fr_923
  have fr_957 : M_934 79 = none := by rw [eM_937, va_up_ne _ _ (by decide)]; exact fr_924
  have fr_958 : M_934 80 = none := by rw [eM_937, va_up_ne _ _ (by decide)]; exact fr_925
  have fr_959 : M_934 81 = none := by rw [eM_937, va_up_ne _ _ (by decide)]; exact fr_926
  have fr_960 : M_934 82 = none := by rw [eM_937, va_up_ne _ _ (by decide)]; exact fr_927
  have fr_961 : M_934 83 = none := by rw [eM_937, va_up_ne _ _ (by decide)]; exact fr_928
  have fr_962 : M_934 84 = none := by rw [eM_937, va_up_ne _ _ (by decide)]; exact fr_929
  have fr_963 : M_934 85 = none := by rw [eM_937, va_up_ne _ _ (by decide)]; exact fr_930
  have fr_964 : M_934 86 = none := by rw [eM_937, va_up_ne _ _ (by decide)]; exact fr_931
  have fr_965 : M_934 87 = none := by rw [eM_937, va_up_ne _ _ (by decide)]; exact fr_932
  have hF_966 : ∀ j : Nat, j ≠ 61 → j ≠ 60 → j ≠ 62 → j ≠ 63 → j ≠ 64 → j ≠ 65 → j ≠ 66 → j ≠ 67 → j ≠ 68 → j ≠ 69 → j ≠ 70 → j ≠ 71 → j ≠ 72 → j ≠ 73 → j ≠ 74 → M_934 j = M j := fun j q0 q1 q2 q3 q4 q5 q6 q7 q8 q9 q10 q11 q12 q13 q14 => by rw [eM_937, va_up_ne _ _ q1]; exact hF_933 j q0 q1 q2 q3 q4 q5 q6 q7 q8 q9 q10 q11 q12 q13 q14
  clear hm_906 hm_907 hm_908 hm_909 hm_910 hm_911 hm_912 hm_913 hm_914 hm_915 hm_916 hm_917 hm_918 hm_919 hm_905 fr_920 fr_921 fr_922 fr_923 fr_924 fr_925 fr_926 fr_927 fr_928 fr_929 fr_930 fr_931 fr_932 hF_933
  refine lv_aload_n hx hb dX10_init_118 rfl (lv_at hl 0 rfl) ?_
  refine n_eqv (show Value.ref (ad 60) = .ref (ad_898 60) from by rw [hAd_904 60 (by decide), hAd_835 60 (by decide), hAd_766 60 (by decide), hAd_697 60 (by decide), hAd_628 60 (by decide), hAd_559 60 (by decide), hAd_490 60 (by decide), hAd_421 60 (by decide), hAd_352 60 (by decide), hAd_283 60 (by decide), hAd_214 60 (by decide), hAd_145 60 (by decide), hAd_76 60 (by decide), hAd_7 60 (by decide)]) ?_
  refine lv_bipush (v := nI 12) hx hb dX10_init_119 (by decide) ?_
  refine h_newa (atype := .int) (n := 12) (a0 := (12, .inl (nF (fun _ => 0)))) hx hb na_int 0 (ty := .int) rfl rfl (fun C h => by cases h) hI (ha_int 12) (by decide) (by decide) (Nat.le_of_ble_eq_true rfl) (Nat.le_of_ble_eq_true rfl) dX10_init_121 75 fr_953 (fun ad_967 M_968 H_969 hA_970 eM_971 hI => ?_)
  have hAd_973 : ∀ j : Nat, j ≠ 75 → ad_967 j = ad_898 j := fun j hj => by obtain ⟨q, e⟩ := hA_970; rw [e]; exact va_up_ne _ _ hj
  have hm_974 : M_968 75 = some (aI G 12 (nF (fun _ => 0))) := by rw [eM_971]; exact va_up_self _ _ _
  have hm_975 : M_968 60 = some (.inr (11, [.int (nI 0), .ref (ad_967 61), .ref (ad_967 62), .ref (ad_967 63), .ref (ad_967 64), .ref (ad_967 65), .ref (ad_967 66), .ref (ad_967 67), .ref (ad_967 68), .ref (ad_967 69), .ref (ad_967 70), .int (nI 0), .ref (ad_967 71), .ref (ad_967 72), .ref (ad_967 73), .int (nI 0), .ref (ad_967 74), .null, .null, .null, .null, .null, .int (nI 0), .int (nI 0), .int (nI 0), .null, .int (nI 0), .int (nI 0), .int (nI 0), .int (nI 0), .int (nI 0), .null, .null, .null, .null, .null, .null, .null])) := by rw [eM_971, va_up_ne _ _ (by decide), hm_938]; rw [hAd_973 61 (by decide), hAd_973 62 (by decide), hAd_973 63 (by decide), hAd_973 64 (by decide), hAd_973 65 (by decide), hAd_973 66 (by decide), hAd_973 67 (by decide), hAd_973 68 (by decide), hAd_973 69 (by decide), hAd_973 70 (by decide), hAd_973 71 (by decide), hAd_973 72 (by decide), hAd_973 73 (by decide), hAd_973 74 (by decide)]
  have hm_976 : M_968 61 = some (aI G 36 (nF (fun _ => 0))) := by rw [eM_971, va_up_ne _ _ (by decide), hm_939]
  have hm_977 : M_968 62 = some (aI G 36 (nF (fun _ => 0))) := by rw [eM_971, va_up_ne _ _ (by decide), hm_940]
  have hm_978 : M_968 63 = some (aI G 36 (nF (fun _ => 0))) := by rw [eM_971, va_up_ne _ _ (by decide), hm_941]
  have hm_979 : M_968 64 = some (aZ G 6 (bF (fun _ => false))) := by rw [eM_971, va_up_ne _ _ (by decide), hm_942]
  have hm_980 : M_968 65 = some (aI G 120 (nF (fun _ => 0))) := by rw [eM_971, va_up_ne _ _ (by decide), hm_943]
  have hm_981 : M_968 66 = some (aI G 120 (nF (fun _ => 0))) := by rw [eM_971, va_up_ne _ _ (by decide), hm_944]
  have hm_982 : M_968 67 = some (aI G 120 (nF (fun _ => 0))) := by rw [eM_971, va_up_ne _ _ (by decide), hm_945]
  have hm_983 : M_968 68 = some (aI G 121 (nF (fun _ => 0))) := by rw [eM_971, va_up_ne _ _ (by decide), hm_946]
  have hm_984 : M_968 69 = some (aI G 726 (nF (fun _ => 0))) := by rw [eM_971, va_up_ne _ _ (by decide), hm_947]
  have hm_985 : M_968 70 = some (aI G 726 (nF (fun _ => 0))) := by rw [eM_971, va_up_ne _ _ (by decide), hm_948]
  have hm_986 : M_968 71 = some (aI G 40 (nF (fun _ => 0))) := by rw [eM_971, va_up_ne _ _ (by decide), hm_949]
  have hm_987 : M_968 72 = some (aI G 40 (nF (fun _ => 0))) := by rw [eM_971, va_up_ne _ _ (by decide), hm_950]
  have hm_988 : M_968 73 = some (aI G 40 (nF (fun _ => 0))) := by rw [eM_971, va_up_ne _ _ (by decide), hm_951]
  have hm_989 : M_968 74 = some (aI G 120 (nF (fun _ => 0))) := by rw [eM_971, va_up_ne _ _ (by decide), hm_952]
  have fr_990 : M_968 76 = none := by rw [eM_971, va_up_ne _ _ (by decide)]; exact fr_954
  have fr_991 : M_968 77 = none := by rw [eM_971, va_up_ne _ _ (by decide)]; exact fr_955
  have fr_992 : M_968 78 = none := by rw [eM_971, va_up_ne _ _ (by decide)]; exact fr_956
  have fr_993 : M_968 79 = none := by rw [eM_971, va_up_ne _ _ (by decide)]; exact fr_957
  have fr_994 : M_968 80 = none := by rw [eM_971, va_up_ne _ _ (by decide)]; exact fr_958
  have fr_995 : M_968 81 = none := by rw [eM_971, va_up_ne _ _ (by decide)]; exact fr_959
  have fr_996 : M_968 82 = none := by rw [eM_971, va_up_ne _ _ (by decide)]; exact fr_960
  have fr_997 : M_968 83 = none := by rw [eM_971, va_up_ne _ _ (by decide)]; exact fr_961
  have fr_998 : M_968 84 = none := by rw [eM_971, va_up_ne _ _ (by decide)]; exact fr_962
  have fr_999 : M_968 85 = none := by rw [eM_971, va_up_ne _ _ (by decide)]; exact fr_963
  have fr_1000 : M_968 86 = none := by rw [eM_971, va_up_ne _ _ (by decide)]; exact fr_964
  have fr_1001 : M_968 87 = none := by rw [eM_971, va_up_ne _ _ (by decide)]; exact fr_965
  clear hm_938 hm_939 hm_940 hm_941 hm_942 hm_943 hm_944 hm_945 hm_946 hm_947 hm_948 hm_949 hm_950 hm_951 hm_952 fr_954 fr_955 fr_956 fr_957 fr_958 fr_959 fr_960 fr_961 fr_962 fr_963 fr_964 fr_965
  have hF_1002 : ∀ j : Nat, j ≠ 61 → j ≠ 60 → j ≠ 62 → j ≠ 63 → j ≠ 64 → j ≠ 65 → j ≠ 66 → j ≠ 67 → j ≠ 68 → j ≠ 69 → j ≠ 70 → j ≠ 71 → j ≠ 72 → j ≠ 73 → j ≠ 74 → j ≠ 75 → M_968 j = M j := fun j q0 q1 q2 q3 q4 q5 q6 q7 q8 q9 q10 q11 q12 q13 q14 q15 => by rw [eM_971, va_up_ne _ _ q15]; exact hF_966 j q0 q1 q2 q3 q4 q5 q6 q7 q8 q9 q10 q11 q12 q13 q14
  clear hF_966
  refine n_eqs (show ([.ref (ad_967 75), .ref (ad_898 60)] : List Value) = [.ref (ad_967 75), .ref (ad_967 60)] from by rw [hAd_973 60 (by decide)]) ?_
  refine h_putF (C := RX10) (T := TX10) (N := 38) hx hb hts i_RX10 tyX10 tyX10_ok nmX10 hown hI hm_975 rfl 17 (by decide) f_57 rfl rfl hini rfl rfl rfl (Nat.le_of_ble_eq_true rfl) dX10_init_123 (fun M_1003 H_1004 locs_1005 eM_1006 hI => ?_)
  have hm_1007 : M_1003 60 = some (.inr (11, [.int (nI 0), .ref (ad_967 61), .ref (ad_967 62), .ref (ad_967 63), .ref (ad_967 64), .ref (ad_967 65), .ref (ad_967 66), .ref (ad_967 67), .ref (ad_967 68), .ref (ad_967 69), .ref (ad_967 70), .int (nI 0), .ref (ad_967 71), .ref (ad_967 72), .ref (ad_967 73), .int (nI 0), .ref (ad_967 74), .ref (ad_967 75), .null, .null, .null, .null, .int (nI 0), .int (nI 0), .int (nI 0), .null, .int (nI 0), .int (nI 0), .int (nI 0), .int (nI 0), .int (nI 0), .null, .null, .null, .null, .null, .null, .null])) := by rw [eM_1006]; exact va_up_self _ _ _
  have hm_1008 : M_1003 61 = some (aI G 36 (nF (fun _ => 0))) := by rw [eM_1006, va_up_ne _ _ (by decide)]; exact hm_976
  have hm_1009 : M_1003 62 = some (aI G 36 (nF (fun _ => 0))) := by rw [eM_1006, va_up_ne _ _ (by decide)]; exact hm_977
  have hm_1010 : M_1003 63 = some (aI G 36 (nF (fun _ => 0))) := by rw [eM_1006, va_up_ne _ _ (by decide)]; exact hm_978
  have hm_1011 : M_1003 64 = some (aZ G 6 (bF (fun _ => false))) := by rw [eM_1006, va_up_ne _ _ (by decide)]; exact hm_979
  have hm_1012 : M_1003 65 = some (aI G 120 (nF (fun _ => 0))) := by rw [eM_1006, va_up_ne _ _ (by decide)]; exact hm_980
  have hm_1013 : M_1003 66 = some (aI G 120 (nF (fun _ => 0))) := by rw [eM_1006, va_up_ne _ _ (by decide)]; exact hm_981
  have hm_1014 : M_1003 67 = some (aI G 120 (nF (fun _ => 0))) := by rw [eM_1006, va_up_ne _ _ (by decide)]; exact hm_982
  have hm_1015 : M_1003 68 = some (aI G 121 (nF (fun _ => 0))) := by rw [eM_1006, va_up_ne _ _ (by decide)]; exact hm_983
  have hm_1016 : M_1003 69 = some (aI G 726 (nF (fun _ => 0))) := by rw [eM_1006, va_up_ne _ _ (by decide)]; exact hm_984
  have hm_1017 : M_1003 70 = some (aI G 726 (nF (fun _ => 0))) := by rw [eM_1006, va_up_ne _ _ (by decide)]; exact hm_985
  have hm_1018 : M_1003 71 = some (aI G 40 (nF (fun _ => 0))) := by rw [eM_1006, va_up_ne _ _ (by decide)]; exact hm_986
  have hm_1019 : M_1003 72 = some (aI G 40 (nF (fun _ => 0))) := by rw [eM_1006, va_up_ne _ _ (by decide)]; exact hm_987
  have hm_1020 : M_1003 73 = some (aI G 40 (nF (fun _ => 0))) := by rw [eM_1006, va_up_ne _ _ (by decide)]; exact hm_988
  have hm_1021 : M_1003 74 = some (aI G 120 (nF (fun _ => 0))) := by rw [eM_1006, va_up_ne _ _ (by decide)]; exact hm_989
  have hm_1022 : M_1003 75 = some (aI G 12 (nF (fun _ => 0))) := by rw [eM_1006, va_up_ne _ _ (by decide)]; exact hm_974
  have fr_1023 : M_1003 76 = none := by rw [eM_1006, va_up_ne _ _ (by decide)]; exact fr_990
  have fr_1024 : M_1003 77 = none := by rw [eM_1006, va_up_ne _ _ (by decide)]; exact fr_991
  have fr_1025 : M_1003 78 = none := by rw [eM_1006, va_up_ne _ _ (by decide)]; exact fr_992
  have fr_1026 : M_1003 79 = none := by rw [eM_1006, va_up_ne _ _ (by decide)]; exact fr_993
  have fr_1027 : M_1003 80 = none := by rw [eM_1006, va_up_ne _ _ (by decide)]; exact fr_994
  have fr_1028 : M_1003 81 = none := by rw [eM_1006, va_up_ne _ _ (by decide)]; exact fr_995
  have fr_1029 : M_1003 82 = none := by rw [eM_1006, va_up_ne _ _ (by decide)]; exact fr_996
  have fr_1030 : M_1003 83 = none := by rw [eM_1006, va_up_ne _ _ (by decide)]; exact fr_997
  have fr_1031 : M_1003 84 = none := by rw [eM_1006, va_up_ne _ _ (by decide)]; exact fr_998
  have fr_1032 : M_1003 85 = none := by rw [eM_1006, va_up_ne _ _ (by decide)]; exact fr_999
  have fr_1033 : M_1003 86 = none := by rw [eM_1006, va_up_ne _ _ (by decide)]; exact fr_1000
  have fr_1034 : M_1003 87 = none := by rw [eM_1006, va_up_ne _ _ (by decide)]; exact fr_1001
  have hF_1035 : ∀ j : Nat, j ≠ 61 → j ≠ 60 → j ≠ 62 → j ≠ 63 → j ≠ 64 → j ≠ 65 → j ≠ 66 → j ≠ 67 → j ≠ 68 → j ≠ 69 → j ≠ 70 → j ≠ 71 → j ≠ 72 → j ≠ 73 → j ≠ 74 → j ≠ 75 → M_1003 j = M j := fun j q0 q1 q2 q3 q4 q5 q6 q7 q8 q9 q10 q11 q12 q13 q14 q15 => by rw [eM_1006, va_up_ne _ _ q1]; exact hF_1002 j q0 q1 q2 q3 q4 q5 q6 q7 q8 q9 q10 q11 q12 q13 q14 q15
  clear hm_975 hm_976 hm_977 hm_978 hm_979 hm_980 hm_981 hm_982 hm_983 hm_984 hm_985 hm_986 hm_987 hm_988 hm_989 hm_974 fr_990 fr_991 fr_992 fr_993 fr_994 fr_995 fr_996 fr_997 fr_998 fr_999 fr_1000 fr_1001 hF_1002
  refine lv_aload_n hx hb dX10_init_126 rfl (lv_at hl 0 rfl) ?_
  refine n_eqv (show Value.ref (ad 60) = .ref (ad_967 60) from by rw [hAd_973 60 (by decide), hAd_904 60 (by decide), hAd_835 60 (by decide), hAd_766 60 (by decide), hAd_697 60 (by decide), hAd_628 60 (by decide), hAd_559 60 (by decide), hAd_490 60 (by decide), hAd_421 60 (by decide), hAd_352 60 (by decide), hAd_283 60 (by decide), hAd_214 60 (by decide), hAd_145 60 (by decide), hAd_76 60 (by decide), hAd_7 60 (by decide)]) ?_
  refine lv_bipush (v := nI 12) hx hb dX10_init_127 (by decide) ?_
  refine h_newa (atype := .boolean) (n := 12) (a0 := (12, .inl (bF (fun _ => false)))) hx hb na_boolean 1 (ty := .boolean) rfl rfl (fun C h => by cases h) hI (ha_boolean 12) (by decide) (by decide) (Nat.le_of_ble_eq_true rfl) (Nat.le_of_ble_eq_true rfl) dX10_init_129 76 fr_1023 (fun ad_1036 M_1037 H_1038 hA_1039 eM_1040 hI => ?_)
  have hAd_1042 : ∀ j : Nat, j ≠ 76 → ad_1036 j = ad_967 j := fun j hj => by obtain ⟨q, e⟩ := hA_1039; rw [e]; exact va_up_ne _ _ hj
  have hm_1043 : M_1037 76 = some (aZ G 12 (bF (fun _ => false))) := by rw [eM_1040]; exact va_up_self _ _ _
  have hm_1044 : M_1037 60 = some (.inr (11, [.int (nI 0), .ref (ad_1036 61), .ref (ad_1036 62), .ref (ad_1036 63), .ref (ad_1036 64), .ref (ad_1036 65), .ref (ad_1036 66), .ref (ad_1036 67), .ref (ad_1036 68), .ref (ad_1036 69), .ref (ad_1036 70), .int (nI 0), .ref (ad_1036 71), .ref (ad_1036 72), .ref (ad_1036 73), .int (nI 0), .ref (ad_1036 74), .ref (ad_1036 75), .null, .null, .null, .null, .int (nI 0), .int (nI 0), .int (nI 0), .null, .int (nI 0), .int (nI 0), .int (nI 0), .int (nI 0), .int (nI 0), .null, .null, .null, .null, .null, .null, .null])) := by rw [eM_1040, va_up_ne _ _ (by decide), hm_1007]; rw [hAd_1042 61 (by decide), hAd_1042 62 (by decide), hAd_1042 63 (by decide), hAd_1042 64 (by decide), hAd_1042 65 (by decide), hAd_1042 66 (by decide), hAd_1042 67 (by decide), hAd_1042 68 (by decide), hAd_1042 69 (by decide), hAd_1042 70 (by decide), hAd_1042 71 (by decide), hAd_1042 72 (by decide), hAd_1042 73 (by decide), hAd_1042 74 (by decide), hAd_1042 75 (by decide)]
  have hm_1045 : M_1037 61 = some (aI G 36 (nF (fun _ => 0))) := by rw [eM_1040, va_up_ne _ _ (by decide), hm_1008]
  have hm_1046 : M_1037 62 = some (aI G 36 (nF (fun _ => 0))) := by rw [eM_1040, va_up_ne _ _ (by decide), hm_1009]
  have hm_1047 : M_1037 63 = some (aI G 36 (nF (fun _ => 0))) := by rw [eM_1040, va_up_ne _ _ (by decide), hm_1010]
  have hm_1048 : M_1037 64 = some (aZ G 6 (bF (fun _ => false))) := by rw [eM_1040, va_up_ne _ _ (by decide), hm_1011]
  have hm_1049 : M_1037 65 = some (aI G 120 (nF (fun _ => 0))) := by rw [eM_1040, va_up_ne _ _ (by decide), hm_1012]
  have hm_1050 : M_1037 66 = some (aI G 120 (nF (fun _ => 0))) := by rw [eM_1040, va_up_ne _ _ (by decide), hm_1013]
  have hm_1051 : M_1037 67 = some (aI G 120 (nF (fun _ => 0))) := by rw [eM_1040, va_up_ne _ _ (by decide), hm_1014]
  have hm_1052 : M_1037 68 = some (aI G 121 (nF (fun _ => 0))) := by rw [eM_1040, va_up_ne _ _ (by decide), hm_1015]
  have hm_1053 : M_1037 69 = some (aI G 726 (nF (fun _ => 0))) := by rw [eM_1040, va_up_ne _ _ (by decide), hm_1016]
  have hm_1054 : M_1037 70 = some (aI G 726 (nF (fun _ => 0))) := by rw [eM_1040, va_up_ne _ _ (by decide), hm_1017]
  have hm_1055 : M_1037 71 = some (aI G 40 (nF (fun _ => 0))) := by rw [eM_1040, va_up_ne _ _ (by decide), hm_1018]
  have hm_1056 : M_1037 72 = some (aI G 40 (nF (fun _ => 0))) := by rw [eM_1040, va_up_ne _ _ (by decide), hm_1019]
  have hm_1057 : M_1037 73 = some (aI G 40 (nF (fun _ => 0))) := by rw [eM_1040, va_up_ne _ _ (by decide), hm_1020]
  have hm_1058 : M_1037 74 = some (aI G 120 (nF (fun _ => 0))) := by rw [eM_1040, va_up_ne _ _ (by decide), hm_1021]
  have hm_1059 : M_1037 75 = some (aI G 12 (nF (fun _ => 0))) := by rw [eM_1040, va_up_ne _ _ (by decide), hm_1022]
  have fr_1060 : M_1037 77 = none := by rw [eM_1040, va_up_ne _ _ (by decide)]; exact fr_1024
  have fr_1061 : M_1037 78 = none := by rw [eM_1040, va_up_ne _ _ (by decide)]; exact fr_1025
  have fr_1062 : M_1037 79 = none := by rw [eM_1040, va_up_ne _ _ (by decide)]; exact fr_1026
  have fr_1063 : M_1037 80 = none := by rw [eM_1040, va_up_ne _ _ (by decide)]; exact fr_1027
  have fr_1064 : M_1037 81 = none := by rw [eM_1040, va_up_ne _ _ (by decide)]; exact fr_1028
  have fr_1065 : M_1037 82 = none := by rw [eM_1040, va_up_ne _ _ (by decide)]; exact fr_1029
  have fr_1066 : M_1037 83 = none := by rw [eM_1040, va_up_ne _ _ (by decide)]; exact fr_1030
  have fr_1067 : M_1037 84 = none := by rw [eM_1040, va_up_ne _ _ (by decide)]; exact fr_1031
  have fr_1068 : M_1037 85 = none := by rw [eM_1040, va_up_ne _ _ (by decide)]; exact fr_1032
  have fr_1069 : M_1037 86 = none := by rw [eM_1040, va_up_ne _ _ (by decide)]; exact fr_1033
  have fr_1070 : M_1037 87 = none := by rw [eM_1040, va_up_ne _ _ (by decide)]; exact fr_1034
  clear hm_1007 hm_1008 hm_1009 hm_1010 hm_1011 hm_1012 hm_1013 hm_1014 hm_1015 hm_1016 hm_1017 hm_1018 hm_1019 hm_1020 hm_1021 hm_1022 fr_1024 fr_1025 fr_1026 fr_1027 fr_1028 fr_1029 fr_1030 fr_1031 fr_1032 fr_1033 fr_1034
  have hF_1071 : ∀ j : Nat, j ≠ 61 → j ≠ 60 → j ≠ 62 → j ≠ 63 → j ≠ 64 → j ≠ 65 → j ≠ 66 → j ≠ 67 → j ≠ 68 → j ≠ 69 → j ≠ 70 → j ≠ 71 → j ≠ 72 → j ≠ 73 → j ≠ 74 → j ≠ 75 → j ≠ 76 → M_1037 j = M j := fun j q0 q1 q2 q3 q4 q5 q6 q7 q8 q9 q10 q11 q12 q13 q14 q15 q16 => by rw [eM_1040, va_up_ne _ _ q16]; exact hF_1035 j q0 q1 q2 q3 q4 q5 q6 q7 q8 q9 q10 q11 q12 q13 q14 q15
  clear hF_1035
  refine n_eqs (show ([.ref (ad_1036 76), .ref (ad_967 60)] : List Value) = [.ref (ad_1036 76), .ref (ad_1036 60)] from by rw [hAd_1042 60 (by decide)]) ?_
  refine h_putF (C := RX10) (T := TX10) (N := 38) hx hb hts i_RX10 tyX10 tyX10_ok nmX10 hown hI hm_1044 rfl 18 (by decide) f_60 rfl rfl hini rfl rfl rfl (Nat.le_of_ble_eq_true rfl) dX10_init_131 (fun M_1072 H_1073 locs_1074 eM_1075 hI => ?_)
  have hm_1076 : M_1072 60 = some (.inr (11, [.int (nI 0), .ref (ad_1036 61), .ref (ad_1036 62), .ref (ad_1036 63), .ref (ad_1036 64), .ref (ad_1036 65), .ref (ad_1036 66), .ref (ad_1036 67), .ref (ad_1036 68), .ref (ad_1036 69), .ref (ad_1036 70), .int (nI 0), .ref (ad_1036 71), .ref (ad_1036 72), .ref (ad_1036 73), .int (nI 0), .ref (ad_1036 74), .ref (ad_1036 75), .ref (ad_1036 76), .null, .null, .null, .int (nI 0), .int (nI 0), .int (nI 0), .null, .int (nI 0), .int (nI 0), .int (nI 0), .int (nI 0), .int (nI 0), .null, .null, .null, .null, .null, .null, .null])) := by rw [eM_1075]; exact va_up_self _ _ _
  have hm_1077 : M_1072 61 = some (aI G 36 (nF (fun _ => 0))) := by rw [eM_1075, va_up_ne _ _ (by decide)]; exact hm_1045
  have hm_1078 : M_1072 62 = some (aI G 36 (nF (fun _ => 0))) := by rw [eM_1075, va_up_ne _ _ (by decide)]; exact hm_1046
  have hm_1079 : M_1072 63 = some (aI G 36 (nF (fun _ => 0))) := by rw [eM_1075, va_up_ne _ _ (by decide)]; exact hm_1047
  have hm_1080 : M_1072 64 = some (aZ G 6 (bF (fun _ => false))) := by rw [eM_1075, va_up_ne _ _ (by decide)]; exact hm_1048
  have hm_1081 : M_1072 65 = some (aI G 120 (nF (fun _ => 0))) := by rw [eM_1075, va_up_ne _ _ (by decide)]; exact hm_1049
  have hm_1082 : M_1072 66 = some (aI G 120 (nF (fun _ => 0))) := by rw [eM_1075, va_up_ne _ _ (by decide)]; exact hm_1050
  have hm_1083 : M_1072 67 = some (aI G 120 (nF (fun _ => 0))) := by rw [eM_1075, va_up_ne _ _ (by decide)]; exact hm_1051
  have hm_1084 : M_1072 68 = some (aI G 121 (nF (fun _ => 0))) := by rw [eM_1075, va_up_ne _ _ (by decide)]; exact hm_1052
  have hm_1085 : M_1072 69 = some (aI G 726 (nF (fun _ => 0))) := by rw [eM_1075, va_up_ne _ _ (by decide)]; exact hm_1053
  have hm_1086 : M_1072 70 = some (aI G 726 (nF (fun _ => 0))) := by rw [eM_1075, va_up_ne _ _ (by decide)]; exact hm_1054
  have hm_1087 : M_1072 71 = some (aI G 40 (nF (fun _ => 0))) := by rw [eM_1075, va_up_ne _ _ (by decide)]; exact hm_1055
  have hm_1088 : M_1072 72 = some (aI G 40 (nF (fun _ => 0))) := by rw [eM_1075, va_up_ne _ _ (by decide)]; exact hm_1056
  have hm_1089 : M_1072 73 = some (aI G 40 (nF (fun _ => 0))) := by rw [eM_1075, va_up_ne _ _ (by decide)]; exact hm_1057
  have hm_1090 : M_1072 74 = some (aI G 120 (nF (fun _ => 0))) := by rw [eM_1075, va_up_ne _ _ (by decide)]; exact hm_1058
  have hm_1091 : M_1072 75 = some (aI G 12 (nF (fun _ => 0))) := by rw [eM_1075, va_up_ne _ _ (by decide)]; exact hm_1059
  have hm_1092 : M_1072 76 = some (aZ G 12 (bF (fun _ => false))) := by rw [eM_1075, va_up_ne _ _ (by decide)]; exact hm_1043
  have fr_1093 : M_1072 77 = none := by rw [eM_1075, va_up_ne _ _ (by decide)]; exact fr_1060
  have fr_1094 : M_1072 78 = none := by rw [eM_1075, va_up_ne _ _ (by decide)]; exact fr_1061
  have fr_1095 : M_1072 79 = none := by rw [eM_1075, va_up_ne _ _ (by decide)]; exact fr_1062
  have fr_1096 : M_1072 80 = none := by rw [eM_1075, va_up_ne _ _ (by decide)]; exact fr_1063
  have fr_1097 : M_1072 81 = none := by rw [eM_1075, va_up_ne _ _ (by decide)]; exact fr_1064
  have fr_1098 : M_1072 82 = none := by rw [eM_1075, va_up_ne _ _ (by decide)]; exact fr_1065
  have fr_1099 : M_1072 83 = none := by rw [eM_1075, va_up_ne _ _ (by decide)]; exact fr_1066
  have fr_1100 : M_1072 84 = none := by rw [eM_1075, va_up_ne _ _ (by decide)]; exact fr_1067
  have fr_1101 : M_1072 85 = none := by rw [eM_1075, va_up_ne _ _ (by decide)]; exact fr_1068
  have fr_1102 : M_1072 86 = none := by rw [eM_1075, va_up_ne _ _ (by decide)]; exact fr_1069
  have fr_1103 : M_1072 87 = none := by rw [eM_1075, va_up_ne _ _ (by decide)]; exact fr_1070
  have hF_1104 : ∀ j : Nat, j ≠ 61 → j ≠ 60 → j ≠ 62 → j ≠ 63 → j ≠ 64 → j ≠ 65 → j ≠ 66 → j ≠ 67 → j ≠ 68 → j ≠ 69 → j ≠ 70 → j ≠ 71 → j ≠ 72 → j ≠ 73 → j ≠ 74 → j ≠ 75 → j ≠ 76 → M_1072 j = M j := fun j q0 q1 q2 q3 q4 q5 q6 q7 q8 q9 q10 q11 q12 q13 q14 q15 q16 => by rw [eM_1075, va_up_ne _ _ q1]; exact hF_1071 j q0 q1 q2 q3 q4 q5 q6 q7 q8 q9 q10 q11 q12 q13 q14 q15 q16
  clear hm_1044 hm_1045 hm_1046 hm_1047 hm_1048 hm_1049 hm_1050 hm_1051 hm_1052 hm_1053 hm_1054 hm_1055 hm_1056 hm_1057 hm_1058 hm_1059 hm_1043 fr_1060 fr_1061 fr_1062 fr_1063 fr_1064 fr_1065 fr_1066 fr_1067 fr_1068 fr_1069 fr_1070 hF_1071
  refine lv_aload_n hx hb dX10_init_134 rfl (lv_at hl 0 rfl) ?_
  refine n_eqv (show Value.ref (ad 60) = .ref (ad_1036 60) from by rw [hAd_1042 60 (by decide), hAd_973 60 (by decide), hAd_904 60 (by decide), hAd_835 60 (by decide), hAd_766 60 (by decide), hAd_697 60 (by decide), hAd_628 60 (by decide), hAd_559 60 (by decide), hAd_490 60 (by decide), hAd_421 60 (by decide), hAd_352 60 (by decide), hAd_283 60 (by decide), hAd_214 60 (by decide), hAd_145 60 (by decide), hAd_76 60 (by decide), hAd_7 60 (by decide)]) ?_
  refine lv_bipush (v := nI 12) hx hb dX10_init_135 (by decide) ?_
  refine h_newa (atype := .int) (n := 12) (a0 := (12, .inl (nF (fun _ => 0)))) hx hb na_int 0 (ty := .int) rfl rfl (fun C h => by cases h) hI (ha_int 12) (by decide) (by decide) (Nat.le_of_ble_eq_true rfl) (Nat.le_of_ble_eq_true rfl) dX10_init_137 77 fr_1093 (fun ad_1105 M_1106 H_1107 hA_1108 eM_1109 hI => ?_)
  have hAd_1111 : ∀ j : Nat, j ≠ 77 → ad_1105 j = ad_1036 j := fun j hj => by obtain ⟨q, e⟩ := hA_1108; rw [e]; exact va_up_ne _ _ hj
  have hm_1112 : M_1106 77 = some (aI G 12 (nF (fun _ => 0))) := by rw [eM_1109]; exact va_up_self _ _ _
  have hm_1113 : M_1106 60 = some (.inr (11, [.int (nI 0), .ref (ad_1105 61), .ref (ad_1105 62), .ref (ad_1105 63), .ref (ad_1105 64), .ref (ad_1105 65), .ref (ad_1105 66), .ref (ad_1105 67), .ref (ad_1105 68), .ref (ad_1105 69), .ref (ad_1105 70), .int (nI 0), .ref (ad_1105 71), .ref (ad_1105 72), .ref (ad_1105 73), .int (nI 0), .ref (ad_1105 74), .ref (ad_1105 75), .ref (ad_1105 76), .null, .null, .null, .int (nI 0), .int (nI 0), .int (nI 0), .null, .int (nI 0), .int (nI 0), .int (nI 0), .int (nI 0), .int (nI 0), .null, .null, .null, .null, .null, .null, .null])) := by rw [eM_1109, va_up_ne _ _ (by decide), hm_1076]; rw [hAd_1111 61 (by decide), hAd_1111 62 (by decide), hAd_1111 63 (by decide), hAd_1111 64 (by decide), hAd_1111 65 (by decide), hAd_1111 66 (by decide), hAd_1111 67 (by decide), hAd_1111 68 (by decide), hAd_1111 69 (by decide), hAd_1111 70 (by decide), hAd_1111 71 (by decide), hAd_1111 72 (by decide), hAd_1111 73 (by decide), hAd_1111 74 (by decide), hAd_1111 75 (by decide), hAd_1111 76 (by decide)]
  have hm_1114 : M_1106 61 = some (aI G 36 (nF (fun _ => 0))) := by rw [eM_1109, va_up_ne _ _ (by decide), hm_1077]
  have hm_1115 : M_1106 62 = some (aI G 36 (nF (fun _ => 0))) := by rw [eM_1109, va_up_ne _ _ (by decide), hm_1078]
  have hm_1116 : M_1106 63 = some (aI G 36 (nF (fun _ => 0))) := by rw [eM_1109, va_up_ne _ _ (by decide), hm_1079]
  have hm_1117 : M_1106 64 = some (aZ G 6 (bF (fun _ => false))) := by rw [eM_1109, va_up_ne _ _ (by decide), hm_1080]
  have hm_1118 : M_1106 65 = some (aI G 120 (nF (fun _ => 0))) := by rw [eM_1109, va_up_ne _ _ (by decide), hm_1081]
  have hm_1119 : M_1106 66 = some (aI G 120 (nF (fun _ => 0))) := by rw [eM_1109, va_up_ne _ _ (by decide), hm_1082]
  have hm_1120 : M_1106 67 = some (aI G 120 (nF (fun _ => 0))) := by rw [eM_1109, va_up_ne _ _ (by decide), hm_1083]
  have hm_1121 : M_1106 68 = some (aI G 121 (nF (fun _ => 0))) := by rw [eM_1109, va_up_ne _ _ (by decide), hm_1084]
  have hm_1122 : M_1106 69 = some (aI G 726 (nF (fun _ => 0))) := by rw [eM_1109, va_up_ne _ _ (by decide), hm_1085]
  have hm_1123 : M_1106 70 = some (aI G 726 (nF (fun _ => 0))) := by rw [eM_1109, va_up_ne _ _ (by decide), hm_1086]
  have hm_1124 : M_1106 71 = some (aI G 40 (nF (fun _ => 0))) := by rw [eM_1109, va_up_ne _ _ (by decide), hm_1087]
  have hm_1125 : M_1106 72 = some (aI G 40 (nF (fun _ => 0))) := by rw [eM_1109, va_up_ne _ _ (by decide), hm_1088]
  have hm_1126 : M_1106 73 = some (aI G 40 (nF (fun _ => 0))) := by rw [eM_1109, va_up_ne _ _ (by decide), hm_1089]
  have hm_1127 : M_1106 74 = some (aI G 120 (nF (fun _ => 0))) := by rw [eM_1109, va_up_ne _ _ (by decide), hm_1090]
  have hm_1128 : M_1106 75 = some (aI G 12 (nF (fun _ => 0))) := by rw [eM_1109, va_up_ne _ _ (by decide), hm_1091]
  have hm_1129 : M_1106 76 = some (aZ G 12 (bF (fun _ => false))) := by rw [eM_1109, va_up_ne _ _ (by decide), hm_1092]
  have fr_1130 : M_1106 78 = none := by rw [eM_1109, va_up_ne _ _ (by decide)]; exact fr_1094
  have fr_1131 : M_1106 79 = none := by rw [eM_1109, va_up_ne _ _ (by decide)]; exact fr_1095
  have fr_1132 : M_1106 80 = none := by rw [eM_1109, va_up_ne _ _ (by decide)]; exact fr_1096
  have fr_1133 : M_1106 81 = none := by rw [eM_1109, va_up_ne _ _ (by decide)]; exact fr_1097
  have fr_1134 : M_1106 82 = none := by rw [eM_1109, va_up_ne _ _ (by decide)]; exact fr_1098
  have fr_1135 : M_1106 83 = none := by rw [eM_1109, va_up_ne _ _ (by decide)]; exact fr_1099
  have fr_1136 : M_1106 84 = none := by rw [eM_1109, va_up_ne _ _ (by decide)]; exact fr_1100
  have fr_1137 : M_1106 85 = none := by rw [eM_1109, va_up_ne _ _ (by decide)]; exact fr_1101
  have fr_1138 : M_1106 86 = none := by rw [eM_1109, va_up_ne _ _ (by decide)]; exact fr_1102
  have fr_1139 : M_1106 87 = none := by rw [eM_1109, va_up_ne _ _ (by decide)]; exact fr_1103
  clear hm_1076 hm_1077 hm_1078 hm_1079 hm_1080 hm_1081 hm_1082 hm_1083 hm_1084 hm_1085 hm_1086 hm_1087 hm_1088 hm_1089 hm_1090 hm_1091 hm_1092 fr_1094 fr_1095 fr_1096 fr_1097 fr_1098 fr_1099 fr_1100 fr_1101 fr_1102 fr_1103
  have hF_1140 : ∀ j : Nat, j ≠ 61 → j ≠ 60 → j ≠ 62 → j ≠ 63 → j ≠ 64 → j ≠ 65 → j ≠ 66 → j ≠ 67 → j ≠ 68 → j ≠ 69 → j ≠ 70 → j ≠ 71 → j ≠ 72 → j ≠ 73 → j ≠ 74 → j ≠ 75 → j ≠ 76 → j ≠ 77 → M_1106 j = M j := fun j q0 q1 q2 q3 q4 q5 q6 q7 q8 q9 q10 q11 q12 q13 q14 q15 q16 q17 => by rw [eM_1109, va_up_ne _ _ q17]; exact hF_1104 j q0 q1 q2 q3 q4 q5 q6 q7 q8 q9 q10 q11 q12 q13 q14 q15 q16
  clear hF_1104
  refine n_eqs (show ([.ref (ad_1105 77), .ref (ad_1036 60)] : List Value) = [.ref (ad_1105 77), .ref (ad_1105 60)] from by rw [hAd_1111 60 (by decide)]) ?_
  refine h_putF (C := RX10) (T := TX10) (N := 38) hx hb hts i_RX10 tyX10 tyX10_ok nmX10 hown hI hm_1113 rfl 19 (by decide) f_63 rfl rfl hini rfl rfl rfl (Nat.le_of_ble_eq_true rfl) dX10_init_139 (fun M_1141 H_1142 locs_1143 eM_1144 hI => ?_)
  have hm_1145 : M_1141 60 = some (.inr (11, [.int (nI 0), .ref (ad_1105 61), .ref (ad_1105 62), .ref (ad_1105 63), .ref (ad_1105 64), .ref (ad_1105 65), .ref (ad_1105 66), .ref (ad_1105 67), .ref (ad_1105 68), .ref (ad_1105 69), .ref (ad_1105 70), .int (nI 0), .ref (ad_1105 71), .ref (ad_1105 72), .ref (ad_1105 73), .int (nI 0), .ref (ad_1105 74), .ref (ad_1105 75), .ref (ad_1105 76), .ref (ad_1105 77), .null, .null, .int (nI 0), .int (nI 0), .int (nI 0), .null, .int (nI 0), .int (nI 0), .int (nI 0), .int (nI 0), .int (nI 0), .null, .null, .null, .null, .null, .null, .null])) := by rw [eM_1144]; exact va_up_self _ _ _
  have hm_1146 : M_1141 61 = some (aI G 36 (nF (fun _ => 0))) := by rw [eM_1144, va_up_ne _ _ (by decide)]; exact hm_1114
  have hm_1147 : M_1141 62 = some (aI G 36 (nF (fun _ => 0))) := by rw [eM_1144, va_up_ne _ _ (by decide)]; exact hm_1115
  have hm_1148 : M_1141 63 = some (aI G 36 (nF (fun _ => 0))) := by rw [eM_1144, va_up_ne _ _ (by decide)]; exact hm_1116
  have hm_1149 : M_1141 64 = some (aZ G 6 (bF (fun _ => false))) := by rw [eM_1144, va_up_ne _ _ (by decide)]; exact hm_1117
  have hm_1150 : M_1141 65 = some (aI G 120 (nF (fun _ => 0))) := by rw [eM_1144, va_up_ne _ _ (by decide)]; exact hm_1118
  have hm_1151 : M_1141 66 = some (aI G 120 (nF (fun _ => 0))) := by rw [eM_1144, va_up_ne _ _ (by decide)]; exact hm_1119
  have hm_1152 : M_1141 67 = some (aI G 120 (nF (fun _ => 0))) := by rw [eM_1144, va_up_ne _ _ (by decide)]; exact hm_1120
  have hm_1153 : M_1141 68 = some (aI G 121 (nF (fun _ => 0))) := by rw [eM_1144, va_up_ne _ _ (by decide)]; exact hm_1121
  have hm_1154 : M_1141 69 = some (aI G 726 (nF (fun _ => 0))) := by rw [eM_1144, va_up_ne _ _ (by decide)]; exact hm_1122
  have hm_1155 : M_1141 70 = some (aI G 726 (nF (fun _ => 0))) := by rw [eM_1144, va_up_ne _ _ (by decide)]; exact hm_1123
  have hm_1156 : M_1141 71 = some (aI G 40 (nF (fun _ => 0))) := by rw [eM_1144, va_up_ne _ _ (by decide)]; exact hm_1124
  have hm_1157 : M_1141 72 = some (aI G 40 (nF (fun _ => 0))) := by rw [eM_1144, va_up_ne _ _ (by decide)]; exact hm_1125
  have hm_1158 : M_1141 73 = some (aI G 40 (nF (fun _ => 0))) := by rw [eM_1144, va_up_ne _ _ (by decide)]; exact hm_1126
  have hm_1159 : M_1141 74 = some (aI G 120 (nF (fun _ => 0))) := by rw [eM_1144, va_up_ne _ _ (by decide)]; exact hm_1127
  have hm_1160 : M_1141 75 = some (aI G 12 (nF (fun _ => 0))) := by rw [eM_1144, va_up_ne _ _ (by decide)]; exact hm_1128
  have hm_1161 : M_1141 76 = some (aZ G 12 (bF (fun _ => false))) := by rw [eM_1144, va_up_ne _ _ (by decide)]; exact hm_1129
  have hm_1162 : M_1141 77 = some (aI G 12 (nF (fun _ => 0))) := by rw [eM_1144, va_up_ne _ _ (by decide)]; exact hm_1112
  have fr_1163 : M_1141 78 = none := by rw [eM_1144, va_up_ne _ _ (by decide)]; exact fr_1130
  have fr_1164 : M_1141 79 = none := by rw [eM_1144, va_up_ne _ _ (by decide)]; exact fr_1131
  have fr_1165 : M_1141 80 = none := by rw [eM_1144, va_up_ne _ _ (by decide)]; exact fr_1132
  have fr_1166 : M_1141 81 = none := by rw [eM_1144, va_up_ne _ _ (by decide)]; exact fr_1133
  have fr_1167 : M_1141 82 = none := by rw [eM_1144, va_up_ne _ _ (by decide)]; exact fr_1134
  have fr_1168 : M_1141 83 = none := by rw [eM_1144, va_up_ne _ _ (by decide)]; exact fr_1135
  have fr_1169 : M_1141 84 = none := by rw [eM_1144, va_up_ne _ _ (by decide)]; exact fr_1136
  have fr_1170 : M_1141 85 = none := by rw [eM_1144, va_up_ne _ _ (by decide)]; exact fr_1137
  have fr_1171 : M_1141 86 = none := by rw [eM_1144, va_up_ne _ _ (by decide)]; exact fr_1138
  have fr_1172 : M_1141 87 = none := by rw [eM_1144, va_up_ne _ _ (by decide)]; exact fr_1139
  have hF_1173 : ∀ j : Nat, j ≠ 61 → j ≠ 60 → j ≠ 62 → j ≠ 63 → j ≠ 64 → j ≠ 65 → j ≠ 66 → j ≠ 67 → j ≠ 68 → j ≠ 69 → j ≠ 70 → j ≠ 71 → j ≠ 72 → j ≠ 73 → j ≠ 74 → j ≠ 75 → j ≠ 76 → j ≠ 77 → M_1141 j = M j := fun j q0 q1 q2 q3 q4 q5 q6 q7 q8 q9 q10 q11 q12 q13 q14 q15 q16 q17 => by rw [eM_1144, va_up_ne _ _ q1]; exact hF_1140 j q0 q1 q2 q3 q4 q5 q6 q7 q8 q9 q10 q11 q12 q13 q14 q15 q16 q17
  clear hm_1113 hm_1114 hm_1115 hm_1116 hm_1117 hm_1118 hm_1119 hm_1120 hm_1121 hm_1122 hm_1123 hm_1124 hm_1125 hm_1126 hm_1127 hm_1128 hm_1129 hm_1112 fr_1130 fr_1131 fr_1132 fr_1133 fr_1134 fr_1135 fr_1136 fr_1137 fr_1138 fr_1139 hF_1140
  refine lv_aload_n hx hb dX10_init_142 rfl (lv_at hl 0 rfl) ?_
  refine n_eqv (show Value.ref (ad 60) = .ref (ad_1105 60) from by rw [hAd_1111 60 (by decide), hAd_1042 60 (by decide), hAd_973 60 (by decide), hAd_904 60 (by decide), hAd_835 60 (by decide), hAd_766 60 (by decide), hAd_697 60 (by decide), hAd_628 60 (by decide), hAd_559 60 (by decide), hAd_490 60 (by decide), hAd_421 60 (by decide), hAd_352 60 (by decide), hAd_283 60 (by decide), hAd_214 60 (by decide), hAd_145 60 (by decide), hAd_76 60 (by decide), hAd_7 60 (by decide)]) ?_
  refine lv_bipush (v := nI 48) hx hb dX10_init_143 (by decide) ?_
  refine h_newa (atype := .int) (n := 48) (a0 := (48, .inl (nF (fun _ => 0)))) hx hb na_int 0 (ty := .int) rfl rfl (fun C h => by cases h) hI (ha_int 48) (by decide) (by decide) (Nat.le_of_ble_eq_true rfl) (Nat.le_of_ble_eq_true rfl) dX10_init_145 78 fr_1163 (fun ad_1174 M_1175 H_1176 hA_1177 eM_1178 hI => ?_)
  have hAd_1180 : ∀ j : Nat, j ≠ 78 → ad_1174 j = ad_1105 j := fun j hj => by obtain ⟨q, e⟩ := hA_1177; rw [e]; exact va_up_ne _ _ hj
  have hm_1181 : M_1175 78 = some (aI G 48 (nF (fun _ => 0))) := by rw [eM_1178]; exact va_up_self _ _ _
  have hm_1182 : M_1175 60 = some (.inr (11, [.int (nI 0), .ref (ad_1174 61), .ref (ad_1174 62), .ref (ad_1174 63), .ref (ad_1174 64), .ref (ad_1174 65), .ref (ad_1174 66), .ref (ad_1174 67), .ref (ad_1174 68), .ref (ad_1174 69), .ref (ad_1174 70), .int (nI 0), .ref (ad_1174 71), .ref (ad_1174 72), .ref (ad_1174 73), .int (nI 0), .ref (ad_1174 74), .ref (ad_1174 75), .ref (ad_1174 76), .ref (ad_1174 77), .null, .null, .int (nI 0), .int (nI 0), .int (nI 0), .null, .int (nI 0), .int (nI 0), .int (nI 0), .int (nI 0), .int (nI 0), .null, .null, .null, .null, .null, .null, .null])) := by rw [eM_1178, va_up_ne _ _ (by decide), hm_1145]; rw [hAd_1180 61 (by decide), hAd_1180 62 (by decide), hAd_1180 63 (by decide), hAd_1180 64 (by decide), hAd_1180 65 (by decide), hAd_1180 66 (by decide), hAd_1180 67 (by decide), hAd_1180 68 (by decide), hAd_1180 69 (by decide), hAd_1180 70 (by decide), hAd_1180 71 (by decide), hAd_1180 72 (by decide), hAd_1180 73 (by decide), hAd_1180 74 (by decide), hAd_1180 75 (by decide), hAd_1180 76 (by decide), hAd_1180 77 (by decide)]
  have hm_1183 : M_1175 61 = some (aI G 36 (nF (fun _ => 0))) := by rw [eM_1178, va_up_ne _ _ (by decide), hm_1146]
  have hm_1184 : M_1175 62 = some (aI G 36 (nF (fun _ => 0))) := by rw [eM_1178, va_up_ne _ _ (by decide), hm_1147]
  have hm_1185 : M_1175 63 = some (aI G 36 (nF (fun _ => 0))) := by rw [eM_1178, va_up_ne _ _ (by decide), hm_1148]
  have hm_1186 : M_1175 64 = some (aZ G 6 (bF (fun _ => false))) := by rw [eM_1178, va_up_ne _ _ (by decide), hm_1149]
  have hm_1187 : M_1175 65 = some (aI G 120 (nF (fun _ => 0))) := by rw [eM_1178, va_up_ne _ _ (by decide), hm_1150]
  have hm_1188 : M_1175 66 = some (aI G 120 (nF (fun _ => 0))) := by rw [eM_1178, va_up_ne _ _ (by decide), hm_1151]
  have hm_1189 : M_1175 67 = some (aI G 120 (nF (fun _ => 0))) := by rw [eM_1178, va_up_ne _ _ (by decide), hm_1152]
  have hm_1190 : M_1175 68 = some (aI G 121 (nF (fun _ => 0))) := by rw [eM_1178, va_up_ne _ _ (by decide), hm_1153]
  have hm_1191 : M_1175 69 = some (aI G 726 (nF (fun _ => 0))) := by rw [eM_1178, va_up_ne _ _ (by decide), hm_1154]
  have hm_1192 : M_1175 70 = some (aI G 726 (nF (fun _ => 0))) := by rw [eM_1178, va_up_ne _ _ (by decide), hm_1155]
  have hm_1193 : M_1175 71 = some (aI G 40 (nF (fun _ => 0))) := by rw [eM_1178, va_up_ne _ _ (by decide), hm_1156]
  have hm_1194 : M_1175 72 = some (aI G 40 (nF (fun _ => 0))) := by rw [eM_1178, va_up_ne _ _ (by decide), hm_1157]
  have hm_1195 : M_1175 73 = some (aI G 40 (nF (fun _ => 0))) := by rw [eM_1178, va_up_ne _ _ (by decide), hm_1158]
  have hm_1196 : M_1175 74 = some (aI G 120 (nF (fun _ => 0))) := by rw [eM_1178, va_up_ne _ _ (by decide), hm_1159]
  have hm_1197 : M_1175 75 = some (aI G 12 (nF (fun _ => 0))) := by rw [eM_1178, va_up_ne _ _ (by decide), hm_1160]
  have hm_1198 : M_1175 76 = some (aZ G 12 (bF (fun _ => false))) := by rw [eM_1178, va_up_ne _ _ (by decide), hm_1161]
  have hm_1199 : M_1175 77 = some (aI G 12 (nF (fun _ => 0))) := by rw [eM_1178, va_up_ne _ _ (by decide), hm_1162]
  have fr_1200 : M_1175 79 = none := by rw [eM_1178, va_up_ne _ _ (by decide)]; exact fr_1164
  have fr_1201 : M_1175 80 = none := by rw [eM_1178, va_up_ne _ _ (by decide)]; exact fr_1165
  have fr_1202 : M_1175 81 = none := by rw [eM_1178, va_up_ne _ _ (by decide)]; exact fr_1166
  have fr_1203 : M_1175 82 = none := by rw [eM_1178, va_up_ne _ _ (by decide)]; exact fr_1167
  have fr_1204 : M_1175 83 = none := by rw [eM_1178, va_up_ne _ _ (by decide)]; exact fr_1168
  have fr_1205 : M_1175 84 = none := by rw [eM_1178, va_up_ne _ _ (by decide)]; exact fr_1169
  have fr_1206 : M_1175 85 = none := by rw [eM_1178, va_up_ne _ _ (by decide)]; exact fr_1170
  have fr_1207 : M_1175 86 = none := by rw [eM_1178, va_up_ne _ _ (by decide)]; exact fr_1171
  have fr_1208 : M_1175 87 = none := by rw [eM_1178, va_up_ne _ _ (by decide)]; exact fr_1172
  clear hm_1145 hm_1146 hm_1147 hm_1148 hm_1149 hm_1150 hm_1151 hm_1152 hm_1153 hm_1154 hm_1155 hm_1156 hm_1157 hm_1158 hm_1159 hm_1160 hm_1161 hm_1162 fr_1164 fr_1165 fr_1166 fr_1167 fr_1168 fr_1169 fr_1170 fr_1171 fr_1172
  have hF_1209 : ∀ j : Nat, j ≠ 61 → j ≠ 60 → j ≠ 62 → j ≠ 63 → j ≠ 64 → j ≠ 65 → j ≠ 66 → j ≠ 67 → j ≠ 68 → j ≠ 69 → j ≠ 70 → j ≠ 71 → j ≠ 72 → j ≠ 73 → j ≠ 74 → j ≠ 75 → j ≠ 76 → j ≠ 77 → j ≠ 78 → M_1175 j = M j := fun j q0 q1 q2 q3 q4 q5 q6 q7 q8 q9 q10 q11 q12 q13 q14 q15 q16 q17 q18 => by rw [eM_1178, va_up_ne _ _ q18]; exact hF_1173 j q0 q1 q2 q3 q4 q5 q6 q7 q8 q9 q10 q11 q12 q13 q14 q15 q16 q17
  clear hF_1173
  refine n_eqs (show ([.ref (ad_1174 78), .ref (ad_1105 60)] : List Value) = [.ref (ad_1174 78), .ref (ad_1174 60)] from by rw [hAd_1180 60 (by decide)]) ?_
  refine h_putF (C := RX10) (T := TX10) (N := 38) hx hb hts i_RX10 tyX10 tyX10_ok nmX10 hown hI hm_1182 rfl 20 (by decide) f_66 rfl rfl hini rfl rfl rfl (Nat.le_of_ble_eq_true rfl) dX10_init_147 (fun M_1210 H_1211 locs_1212 eM_1213 hI => ?_)
  have hm_1214 : M_1210 60 = some (.inr (11, [.int (nI 0), .ref (ad_1174 61), .ref (ad_1174 62), .ref (ad_1174 63), .ref (ad_1174 64), .ref (ad_1174 65), .ref (ad_1174 66), .ref (ad_1174 67), .ref (ad_1174 68), .ref (ad_1174 69), .ref (ad_1174 70), .int (nI 0), .ref (ad_1174 71), .ref (ad_1174 72), .ref (ad_1174 73), .int (nI 0), .ref (ad_1174 74), .ref (ad_1174 75), .ref (ad_1174 76), .ref (ad_1174 77), .ref (ad_1174 78), .null, .int (nI 0), .int (nI 0), .int (nI 0), .null, .int (nI 0), .int (nI 0), .int (nI 0), .int (nI 0), .int (nI 0), .null, .null, .null, .null, .null, .null, .null])) := by rw [eM_1213]; exact va_up_self _ _ _
  have hm_1215 : M_1210 61 = some (aI G 36 (nF (fun _ => 0))) := by rw [eM_1213, va_up_ne _ _ (by decide)]; exact hm_1183
  have hm_1216 : M_1210 62 = some (aI G 36 (nF (fun _ => 0))) := by rw [eM_1213, va_up_ne _ _ (by decide)]; exact hm_1184
  have hm_1217 : M_1210 63 = some (aI G 36 (nF (fun _ => 0))) := by rw [eM_1213, va_up_ne _ _ (by decide)]; exact hm_1185
  have hm_1218 : M_1210 64 = some (aZ G 6 (bF (fun _ => false))) := by rw [eM_1213, va_up_ne _ _ (by decide)]; exact hm_1186
  have hm_1219 : M_1210 65 = some (aI G 120 (nF (fun _ => 0))) := by rw [eM_1213, va_up_ne _ _ (by decide)]; exact hm_1187
  have hm_1220 : M_1210 66 = some (aI G 120 (nF (fun _ => 0))) := by rw [eM_1213, va_up_ne _ _ (by decide)]; exact hm_1188
  have hm_1221 : M_1210 67 = some (aI G 120 (nF (fun _ => 0))) := by rw [eM_1213, va_up_ne _ _ (by decide)]; exact hm_1189
  have hm_1222 : M_1210 68 = some (aI G 121 (nF (fun _ => 0))) := by rw [eM_1213, va_up_ne _ _ (by decide)]; exact hm_1190
  have hm_1223 : M_1210 69 = some (aI G 726 (nF (fun _ => 0))) := by rw [eM_1213, va_up_ne _ _ (by decide)]; exact hm_1191
  have hm_1224 : M_1210 70 = some (aI G 726 (nF (fun _ => 0))) := by rw [eM_1213, va_up_ne _ _ (by decide)]; exact hm_1192
  have hm_1225 : M_1210 71 = some (aI G 40 (nF (fun _ => 0))) := by rw [eM_1213, va_up_ne _ _ (by decide)]; exact hm_1193
  have hm_1226 : M_1210 72 = some (aI G 40 (nF (fun _ => 0))) := by rw [eM_1213, va_up_ne _ _ (by decide)]; exact hm_1194
  have hm_1227 : M_1210 73 = some (aI G 40 (nF (fun _ => 0))) := by rw [eM_1213, va_up_ne _ _ (by decide)]; exact hm_1195
  have hm_1228 : M_1210 74 = some (aI G 120 (nF (fun _ => 0))) := by rw [eM_1213, va_up_ne _ _ (by decide)]; exact hm_1196
  have hm_1229 : M_1210 75 = some (aI G 12 (nF (fun _ => 0))) := by rw [eM_1213, va_up_ne _ _ (by decide)]; exact hm_1197
  have hm_1230 : M_1210 76 = some (aZ G 12 (bF (fun _ => false))) := by rw [eM_1213, va_up_ne _ _ (by decide)]; exact hm_1198
  have hm_1231 : M_1210 77 = some (aI G 12 (nF (fun _ => 0))) := by rw [eM_1213, va_up_ne _ _ (by decide)]; exact hm_1199
  have hm_1232 : M_1210 78 = some (aI G 48 (nF (fun _ => 0))) := by rw [eM_1213, va_up_ne _ _ (by decide)]; exact hm_1181
  have fr_1233 : M_1210 79 = none := by rw [eM_1213, va_up_ne _ _ (by decide)]; exact fr_1200
  have fr_1234 : M_1210 80 = none := by rw [eM_1213, va_up_ne _ _ (by decide)]; exact fr_1201
  have fr_1235 : M_1210 81 = none := by rw [eM_1213, va_up_ne _ _ (by decide)]; exact fr_1202
  have fr_1236 : M_1210 82 = none := by rw [eM_1213, va_up_ne _ _ (by decide)]; exact fr_1203
  have fr_1237 : M_1210 83 = none := by rw [eM_1213, va_up_ne _ _ (by decide)]; exact fr_1204
  have fr_1238 : M_1210 84 = none := by rw [eM_1213, va_up_ne _ _ (by decide)]; exact fr_1205
  have fr_1239 : M_1210 85 = none := by rw [eM_1213, va_up_ne _ _ (by decide)]; exact fr_1206
  have fr_1240 : M_1210 86 = none := by rw [eM_1213, va_up_ne _ _ (by decide)]; exact fr_1207
  have fr_1241 : M_1210 87 = none := by rw [eM_1213, va_up_ne _ _ (by decide)]; exact fr_1208
  have hF_1242 : ∀ j : Nat, j ≠ 61 → j ≠ 60 → j ≠ 62 → j ≠ 63 → j ≠ 64 → j ≠ 65 → j ≠ 66 → j ≠ 67 → j ≠ 68 → j ≠ 69 → j ≠ 70 → j ≠ 71 → j ≠ 72 → j ≠ 73 → j ≠ 74 → j ≠ 75 → j ≠ 76 → j ≠ 77 → j ≠ 78 → M_1210 j = M j := fun j q0 q1 q2 q3 q4 q5 q6 q7 q8 q9 q10 q11 q12 q13 q14 q15 q16 q17 q18 => by rw [eM_1213, va_up_ne _ _ q1]; exact hF_1209 j q0 q1 q2 q3 q4 q5 q6 q7 q8 q9 q10 q11 q12 q13 q14 q15 q16 q17 q18
  clear hm_1182 hm_1183 hm_1184 hm_1185 hm_1186 hm_1187 hm_1188 hm_1189 hm_1190 hm_1191 hm_1192 hm_1193 hm_1194 hm_1195 hm_1196 hm_1197 hm_1198 hm_1199 hm_1181 fr_1200 fr_1201 fr_1202 fr_1203 fr_1204 fr_1205 fr_1206 fr_1207 fr_1208 hF_1209
  refine lv_aload_n hx hb dX10_init_150 rfl (lv_at hl 0 rfl) ?_
  refine n_eqv (show Value.ref (ad 60) = .ref (ad_1174 60) from by rw [hAd_1180 60 (by decide), hAd_1111 60 (by decide), hAd_1042 60 (by decide), hAd_973 60 (by decide), hAd_904 60 (by decide), hAd_835 60 (by decide), hAd_766 60 (by decide), hAd_697 60 (by decide), hAd_628 60 (by decide), hAd_559 60 (by decide), hAd_490 60 (by decide), hAd_421 60 (by decide), hAd_352 60 (by decide), hAd_283 60 (by decide), hAd_214 60 (by decide), hAd_145 60 (by decide), hAd_76 60 (by decide), hAd_7 60 (by decide)]) ?_
  refine lv_bipush (v := nI 48) hx hb dX10_init_151 (by decide) ?_
  refine h_newa (atype := .int) (n := 48) (a0 := (48, .inl (nF (fun _ => 0)))) hx hb na_int 0 (ty := .int) rfl rfl (fun C h => by cases h) hI (ha_int 48) (by decide) (by decide) (Nat.le_of_ble_eq_true rfl) (Nat.le_of_ble_eq_true rfl) dX10_init_153 79 fr_1233 (fun ad_1243 M_1244 H_1245 hA_1246 eM_1247 hI => ?_)
  have hAd_1249 : ∀ j : Nat, j ≠ 79 → ad_1243 j = ad_1174 j := fun j hj => by obtain ⟨q, e⟩ := hA_1246; rw [e]; exact va_up_ne _ _ hj
  have hm_1250 : M_1244 79 = some (aI G 48 (nF (fun _ => 0))) := by rw [eM_1247]; exact va_up_self _ _ _
  have hm_1251 : M_1244 60 = some (.inr (11, [.int (nI 0), .ref (ad_1243 61), .ref (ad_1243 62), .ref (ad_1243 63), .ref (ad_1243 64), .ref (ad_1243 65), .ref (ad_1243 66), .ref (ad_1243 67), .ref (ad_1243 68), .ref (ad_1243 69), .ref (ad_1243 70), .int (nI 0), .ref (ad_1243 71), .ref (ad_1243 72), .ref (ad_1243 73), .int (nI 0), .ref (ad_1243 74), .ref (ad_1243 75), .ref (ad_1243 76), .ref (ad_1243 77), .ref (ad_1243 78), .null, .int (nI 0), .int (nI 0), .int (nI 0), .null, .int (nI 0), .int (nI 0), .int (nI 0), .int (nI 0), .int (nI 0), .null, .null, .null, .null, .null, .null, .null])) := by rw [eM_1247, va_up_ne _ _ (by decide), hm_1214]; rw [hAd_1249 61 (by decide), hAd_1249 62 (by decide), hAd_1249 63 (by decide), hAd_1249 64 (by decide), hAd_1249 65 (by decide), hAd_1249 66 (by decide), hAd_1249 67 (by decide), hAd_1249 68 (by decide), hAd_1249 69 (by decide), hAd_1249 70 (by decide), hAd_1249 71 (by decide), hAd_1249 72 (by decide), hAd_1249 73 (by decide), hAd_1249 74 (by decide), hAd_1249 75 (by decide), hAd_1249 76 (by decide), hAd_1249 77 (by decide), hAd_1249 78 (by decide)]
  have hm_1252 : M_1244 61 = some (aI G 36 (nF (fun _ => 0))) := by rw [eM_1247, va_up_ne _ _ (by decide), hm_1215]
  have hm_1253 : M_1244 62 = some (aI G 36 (nF (fun _ => 0))) := by rw [eM_1247, va_up_ne _ _ (by decide), hm_1216]
  have hm_1254 : M_1244 63 = some (aI G 36 (nF (fun _ => 0))) := by rw [eM_1247, va_up_ne _ _ (by decide), hm_1217]
  have hm_1255 : M_1244 64 = some (aZ G 6 (bF (fun _ => false))) := by rw [eM_1247, va_up_ne _ _ (by decide), hm_1218]
  have hm_1256 : M_1244 65 = some (aI G 120 (nF (fun _ => 0))) := by rw [eM_1247, va_up_ne _ _ (by decide), hm_1219]
  have hm_1257 : M_1244 66 = some (aI G 120 (nF (fun _ => 0))) := by rw [eM_1247, va_up_ne _ _ (by decide), hm_1220]
  have hm_1258 : M_1244 67 = some (aI G 120 (nF (fun _ => 0))) := by rw [eM_1247, va_up_ne _ _ (by decide), hm_1221]
  have hm_1259 : M_1244 68 = some (aI G 121 (nF (fun _ => 0))) := by rw [eM_1247, va_up_ne _ _ (by decide), hm_1222]
  have hm_1260 : M_1244 69 = some (aI G 726 (nF (fun _ => 0))) := by rw [eM_1247, va_up_ne _ _ (by decide), hm_1223]
  have hm_1261 : M_1244 70 = some (aI G 726 (nF (fun _ => 0))) := by rw [eM_1247, va_up_ne _ _ (by decide), hm_1224]
  have hm_1262 : M_1244 71 = some (aI G 40 (nF (fun _ => 0))) := by rw [eM_1247, va_up_ne _ _ (by decide), hm_1225]
  have hm_1263 : M_1244 72 = some (aI G 40 (nF (fun _ => 0))) := by rw [eM_1247, va_up_ne _ _ (by decide), hm_1226]
  have hm_1264 : M_1244 73 = some (aI G 40 (nF (fun _ => 0))) := by rw [eM_1247, va_up_ne _ _ (by decide), hm_1227]
  have hm_1265 : M_1244 74 = some (aI G 120 (nF (fun _ => 0))) := by rw [eM_1247, va_up_ne _ _ (by decide), hm_1228]
  have hm_1266 : M_1244 75 = some (aI G 12 (nF (fun _ => 0))) := by rw [eM_1247, va_up_ne _ _ (by decide), hm_1229]
  have hm_1267 : M_1244 76 = some (aZ G 12 (bF (fun _ => false))) := by rw [eM_1247, va_up_ne _ _ (by decide), hm_1230]
  have hm_1268 : M_1244 77 = some (aI G 12 (nF (fun _ => 0))) := by rw [eM_1247, va_up_ne _ _ (by decide), hm_1231]
  have hm_1269 : M_1244 78 = some (aI G 48 (nF (fun _ => 0))) := by rw [eM_1247, va_up_ne _ _ (by decide), hm_1232]
  have fr_1270 : M_1244 80 = none := by rw [eM_1247, va_up_ne _ _ (by decide)]; exact fr_1234
  have fr_1271 : M_1244 81 = none := by rw [eM_1247, va_up_ne _ _ (by decide)]; exact fr_1235
  have fr_1272 : M_1244 82 = none := by rw [eM_1247, va_up_ne _ _ (by decide)]; exact fr_1236
  have fr_1273 : M_1244 83 = none := by rw [eM_1247, va_up_ne _ _ (by decide)]; exact fr_1237
  have fr_1274 : M_1244 84 = none := by rw [eM_1247, va_up_ne _ _ (by decide)]; exact fr_1238
  have fr_1275 : M_1244 85 = none := by rw [eM_1247, va_up_ne _ _ (by decide)]; exact fr_1239
  have fr_1276 : M_1244 86 = none := by rw [eM_1247, va_up_ne _ _ (by decide)]; exact fr_1240
  have fr_1277 : M_1244 87 = none := by rw [eM_1247, va_up_ne _ _ (by decide)]; exact fr_1241
  clear hm_1214 hm_1215 hm_1216 hm_1217 hm_1218 hm_1219 hm_1220 hm_1221 hm_1222 hm_1223 hm_1224 hm_1225 hm_1226 hm_1227 hm_1228 hm_1229 hm_1230 hm_1231 hm_1232 fr_1234 fr_1235 fr_1236 fr_1237 fr_1238 fr_1239 fr_1240 fr_1241
  have hF_1278 : ∀ j : Nat, j ≠ 61 → j ≠ 60 → j ≠ 62 → j ≠ 63 → j ≠ 64 → j ≠ 65 → j ≠ 66 → j ≠ 67 → j ≠ 68 → j ≠ 69 → j ≠ 70 → j ≠ 71 → j ≠ 72 → j ≠ 73 → j ≠ 74 → j ≠ 75 → j ≠ 76 → j ≠ 77 → j ≠ 78 → j ≠ 79 → M_1244 j = M j := fun j q0 q1 q2 q3 q4 q5 q6 q7 q8 q9 q10 q11 q12 q13 q14 q15 q16 q17 q18 q19 => by rw [eM_1247, va_up_ne _ _ q19]; exact hF_1242 j q0 q1 q2 q3 q4 q5 q6 q7 q8 q9 q10 q11 q12 q13 q14 q15 q16 q17 q18
  clear hF_1242
  refine n_eqs (show ([.ref (ad_1243 79), .ref (ad_1174 60)] : List Value) = [.ref (ad_1243 79), .ref (ad_1243 60)] from by rw [hAd_1249 60 (by decide)]) ?_
  refine h_putF (C := RX10) (T := TX10) (N := 38) hx hb hts i_RX10 tyX10 tyX10_ok nmX10 hown hI hm_1251 rfl 21 (by decide) f_69 rfl rfl hini rfl rfl rfl (Nat.le_of_ble_eq_true rfl) dX10_init_155 (fun M_1279 H_1280 locs_1281 eM_1282 hI => ?_)
  have hm_1283 : M_1279 60 = some (.inr (11, [.int (nI 0), .ref (ad_1243 61), .ref (ad_1243 62), .ref (ad_1243 63), .ref (ad_1243 64), .ref (ad_1243 65), .ref (ad_1243 66), .ref (ad_1243 67), .ref (ad_1243 68), .ref (ad_1243 69), .ref (ad_1243 70), .int (nI 0), .ref (ad_1243 71), .ref (ad_1243 72), .ref (ad_1243 73), .int (nI 0), .ref (ad_1243 74), .ref (ad_1243 75), .ref (ad_1243 76), .ref (ad_1243 77), .ref (ad_1243 78), .ref (ad_1243 79), .int (nI 0), .int (nI 0), .int (nI 0), .null, .int (nI 0), .int (nI 0), .int (nI 0), .int (nI 0), .int (nI 0), .null, .null, .null, .null, .null, .null, .null])) := by rw [eM_1282]; exact va_up_self _ _ _
  have hm_1284 : M_1279 61 = some (aI G 36 (nF (fun _ => 0))) := by rw [eM_1282, va_up_ne _ _ (by decide)]; exact hm_1252
  have hm_1285 : M_1279 62 = some (aI G 36 (nF (fun _ => 0))) := by rw [eM_1282, va_up_ne _ _ (by decide)]; exact hm_1253
  have hm_1286 : M_1279 63 = some (aI G 36 (nF (fun _ => 0))) := by rw [eM_1282, va_up_ne _ _ (by decide)]; exact hm_1254
  have hm_1287 : M_1279 64 = some (aZ G 6 (bF (fun _ => false))) := by rw [eM_1282, va_up_ne _ _ (by decide)]; exact hm_1255
  have hm_1288 : M_1279 65 = some (aI G 120 (nF (fun _ => 0))) := by rw [eM_1282, va_up_ne _ _ (by decide)]; exact hm_1256
  have hm_1289 : M_1279 66 = some (aI G 120 (nF (fun _ => 0))) := by rw [eM_1282, va_up_ne _ _ (by decide)]; exact hm_1257
  have hm_1290 : M_1279 67 = some (aI G 120 (nF (fun _ => 0))) := by rw [eM_1282, va_up_ne _ _ (by decide)]; exact hm_1258
  have hm_1291 : M_1279 68 = some (aI G 121 (nF (fun _ => 0))) := by rw [eM_1282, va_up_ne _ _ (by decide)]; exact hm_1259
  have hm_1292 : M_1279 69 = some (aI G 726 (nF (fun _ => 0))) := by rw [eM_1282, va_up_ne _ _ (by decide)]; exact hm_1260
  have hm_1293 : M_1279 70 = some (aI G 726 (nF (fun _ => 0))) := by rw [eM_1282, va_up_ne _ _ (by decide)]; exact hm_1261
  have hm_1294 : M_1279 71 = some (aI G 40 (nF (fun _ => 0))) := by rw [eM_1282, va_up_ne _ _ (by decide)]; exact hm_1262
  have hm_1295 : M_1279 72 = some (aI G 40 (nF (fun _ => 0))) := by rw [eM_1282, va_up_ne _ _ (by decide)]; exact hm_1263
  have hm_1296 : M_1279 73 = some (aI G 40 (nF (fun _ => 0))) := by rw [eM_1282, va_up_ne _ _ (by decide)]; exact hm_1264
  have hm_1297 : M_1279 74 = some (aI G 120 (nF (fun _ => 0))) := by rw [eM_1282, va_up_ne _ _ (by decide)]; exact hm_1265
  have hm_1298 : M_1279 75 = some (aI G 12 (nF (fun _ => 0))) := by rw [eM_1282, va_up_ne _ _ (by decide)]; exact hm_1266
  have hm_1299 : M_1279 76 = some (aZ G 12 (bF (fun _ => false))) := by rw [eM_1282, va_up_ne _ _ (by decide)]; exact hm_1267
  have hm_1300 : M_1279 77 = some (aI G 12 (nF (fun _ => 0))) := by rw [eM_1282, va_up_ne _ _ (by decide)]; exact hm_1268
  have hm_1301 : M_1279 78 = some (aI G 48 (nF (fun _ => 0))) := by rw [eM_1282, va_up_ne _ _ (by decide)]; exact hm_1269
  have hm_1302 : M_1279 79 = some (aI G 48 (nF (fun _ => 0))) := by rw [eM_1282, va_up_ne _ _ (by decide)]; exact hm_1250
  have fr_1303 : M_1279 80 = none := by rw [eM_1282, va_up_ne _ _ (by decide)]; exact fr_1270
  have fr_1304 : M_1279 81 = none := by rw [eM_1282, va_up_ne _ _ (by decide)]; exact fr_1271
  have fr_1305 : M_1279 82 = none := by rw [eM_1282, va_up_ne _ _ (by decide)]; exact fr_1272
  have fr_1306 : M_1279 83 = none := by rw [eM_1282, va_up_ne _ _ (by decide)]; exact fr_1273
  have fr_1307 : M_1279 84 = none := by rw [eM_1282, va_up_ne _ _ (by decide)]; exact fr_1274
  have fr_1308 : M_1279 85 = none := by rw [eM_1282, va_up_ne _ _ (by decide)]; exact fr_1275
  have fr_1309 : M_1279 86 = none := by rw [eM_1282, va_up_ne _ _ (by decide)]; exact fr_1276
  have fr_1310 : M_1279 87 = none := by rw [eM_1282, va_up_ne _ _ (by decide)]; exact fr_1277
  have hF_1311 : ∀ j : Nat, j ≠ 61 → j ≠ 60 → j ≠ 62 → j ≠ 63 → j ≠ 64 → j ≠ 65 → j ≠ 66 → j ≠ 67 → j ≠ 68 → j ≠ 69 → j ≠ 70 → j ≠ 71 → j ≠ 72 → j ≠ 73 → j ≠ 74 → j ≠ 75 → j ≠ 76 → j ≠ 77 → j ≠ 78 → j ≠ 79 → M_1279 j = M j := fun j q0 q1 q2 q3 q4 q5 q6 q7 q8 q9 q10 q11 q12 q13 q14 q15 q16 q17 q18 q19 => by rw [eM_1282, va_up_ne _ _ q1]; exact hF_1278 j q0 q1 q2 q3 q4 q5 q6 q7 q8 q9 q10 q11 q12 q13 q14 q15 q16 q17 q18 q19
  clear hm_1251 hm_1252 hm_1253 hm_1254 hm_1255 hm_1256 hm_1257 hm_1258 hm_1259 hm_1260 hm_1261 hm_1262 hm_1263 hm_1264 hm_1265 hm_1266 hm_1267 hm_1268 hm_1269 hm_1250 fr_1270 fr_1271 fr_1272 fr_1273 fr_1274 fr_1275 fr_1276 fr_1277 hF_1278
  refine lv_aload_n hx hb dX10_init_158 rfl (lv_at hl 0 rfl) ?_
  refine n_eqv (show Value.ref (ad 60) = .ref (ad_1243 60) from by rw [hAd_1249 60 (by decide), hAd_1180 60 (by decide), hAd_1111 60 (by decide), hAd_1042 60 (by decide), hAd_973 60 (by decide), hAd_904 60 (by decide), hAd_835 60 (by decide), hAd_766 60 (by decide), hAd_697 60 (by decide), hAd_628 60 (by decide), hAd_559 60 (by decide), hAd_490 60 (by decide), hAd_421 60 (by decide), hAd_352 60 (by decide), hAd_283 60 (by decide), hAd_214 60 (by decide), hAd_145 60 (by decide), hAd_76 60 (by decide), hAd_7 60 (by decide)]) ?_
  refine lv_sipush (v := nI 400) hx hb dX10_init_159 (by decide) ?_
  refine h_newa (atype := .byte) (n := 400) (a0 := (400, .inl (fun _ => 0))) hx hb na_byte 3 (ty := .byte) rfl rfl (fun C h => by cases h) hI (ha_byte 400) (by decide) (by decide) (Nat.le_of_ble_eq_true rfl) (Nat.le_of_ble_eq_true rfl) dX10_init_162 80 fr_1303 (fun ad_1312 M_1313 H_1314 hA_1315 eM_1316 hI => ?_)
  have hAd_1318 : ∀ j : Nat, j ≠ 80 → ad_1312 j = ad_1243 j := fun j hj => by obtain ⟨q, e⟩ := hA_1315; rw [e]; exact va_up_ne _ _ hj
  have hm_1319 : M_1313 80 = some (aB G 400 (fun _ => 0)) := by rw [eM_1316]; exact va_up_self _ _ _
  have hm_1320 : M_1313 60 = some (.inr (11, [.int (nI 0), .ref (ad_1312 61), .ref (ad_1312 62), .ref (ad_1312 63), .ref (ad_1312 64), .ref (ad_1312 65), .ref (ad_1312 66), .ref (ad_1312 67), .ref (ad_1312 68), .ref (ad_1312 69), .ref (ad_1312 70), .int (nI 0), .ref (ad_1312 71), .ref (ad_1312 72), .ref (ad_1312 73), .int (nI 0), .ref (ad_1312 74), .ref (ad_1312 75), .ref (ad_1312 76), .ref (ad_1312 77), .ref (ad_1312 78), .ref (ad_1312 79), .int (nI 0), .int (nI 0), .int (nI 0), .null, .int (nI 0), .int (nI 0), .int (nI 0), .int (nI 0), .int (nI 0), .null, .null, .null, .null, .null, .null, .null])) := by rw [eM_1316, va_up_ne _ _ (by decide), hm_1283]; rw [hAd_1318 61 (by decide), hAd_1318 62 (by decide), hAd_1318 63 (by decide), hAd_1318 64 (by decide), hAd_1318 65 (by decide), hAd_1318 66 (by decide), hAd_1318 67 (by decide), hAd_1318 68 (by decide), hAd_1318 69 (by decide), hAd_1318 70 (by decide), hAd_1318 71 (by decide), hAd_1318 72 (by decide), hAd_1318 73 (by decide), hAd_1318 74 (by decide), hAd_1318 75 (by decide), hAd_1318 76 (by decide), hAd_1318 77 (by decide), hAd_1318 78 (by decide), hAd_1318 79 (by decide)]
  have hm_1321 : M_1313 61 = some (aI G 36 (nF (fun _ => 0))) := by rw [eM_1316, va_up_ne _ _ (by decide), hm_1284]
  have hm_1322 : M_1313 62 = some (aI G 36 (nF (fun _ => 0))) := by rw [eM_1316, va_up_ne _ _ (by decide), hm_1285]
  have hm_1323 : M_1313 63 = some (aI G 36 (nF (fun _ => 0))) := by rw [eM_1316, va_up_ne _ _ (by decide), hm_1286]
  have hm_1324 : M_1313 64 = some (aZ G 6 (bF (fun _ => false))) := by rw [eM_1316, va_up_ne _ _ (by decide), hm_1287]
  have hm_1325 : M_1313 65 = some (aI G 120 (nF (fun _ => 0))) := by rw [eM_1316, va_up_ne _ _ (by decide), hm_1288]
  have hm_1326 : M_1313 66 = some (aI G 120 (nF (fun _ => 0))) := by rw [eM_1316, va_up_ne _ _ (by decide), hm_1289]
  have hm_1327 : M_1313 67 = some (aI G 120 (nF (fun _ => 0))) := by rw [eM_1316, va_up_ne _ _ (by decide), hm_1290]
  have hm_1328 : M_1313 68 = some (aI G 121 (nF (fun _ => 0))) := by rw [eM_1316, va_up_ne _ _ (by decide), hm_1291]
  have hm_1329 : M_1313 69 = some (aI G 726 (nF (fun _ => 0))) := by rw [eM_1316, va_up_ne _ _ (by decide), hm_1292]
  have hm_1330 : M_1313 70 = some (aI G 726 (nF (fun _ => 0))) := by rw [eM_1316, va_up_ne _ _ (by decide), hm_1293]
  have hm_1331 : M_1313 71 = some (aI G 40 (nF (fun _ => 0))) := by rw [eM_1316, va_up_ne _ _ (by decide), hm_1294]
  have hm_1332 : M_1313 72 = some (aI G 40 (nF (fun _ => 0))) := by rw [eM_1316, va_up_ne _ _ (by decide), hm_1295]
  have hm_1333 : M_1313 73 = some (aI G 40 (nF (fun _ => 0))) := by rw [eM_1316, va_up_ne _ _ (by decide), hm_1296]
  have hm_1334 : M_1313 74 = some (aI G 120 (nF (fun _ => 0))) := by rw [eM_1316, va_up_ne _ _ (by decide), hm_1297]
  have hm_1335 : M_1313 75 = some (aI G 12 (nF (fun _ => 0))) := by rw [eM_1316, va_up_ne _ _ (by decide), hm_1298]
  have hm_1336 : M_1313 76 = some (aZ G 12 (bF (fun _ => false))) := by rw [eM_1316, va_up_ne _ _ (by decide), hm_1299]
  have hm_1337 : M_1313 77 = some (aI G 12 (nF (fun _ => 0))) := by rw [eM_1316, va_up_ne _ _ (by decide), hm_1300]
  have hm_1338 : M_1313 78 = some (aI G 48 (nF (fun _ => 0))) := by rw [eM_1316, va_up_ne _ _ (by decide), hm_1301]
  have hm_1339 : M_1313 79 = some (aI G 48 (nF (fun _ => 0))) := by rw [eM_1316, va_up_ne _ _ (by decide), hm_1302]
  have fr_1340 : M_1313 81 = none := by rw [eM_1316, va_up_ne _ _ (by decide)]; exact fr_1304
  have fr_1341 : M_1313 82 = none := by rw [eM_1316, va_up_ne _ _ (by decide)]; exact fr_1305
  have fr_1342 : M_1313 83 = none := by rw [eM_1316, va_up_ne _ _ (by decide)]; exact fr_1306
  have fr_1343 : M_1313 84 = none := by rw [eM_1316, va_up_ne _ _ (by decide)]; exact fr_1307
  have fr_1344 : M_1313 85 = none := by rw [eM_1316, va_up_ne _ _ (by decide)]; exact fr_1308
  have fr_1345 : M_1313 86 = none := by rw [eM_1316, va_up_ne _ _ (by decide)]; exact fr_1309
  have fr_1346 : M_1313 87 = none := by rw [eM_1316, va_up_ne _ _ (by decide)]; exact fr_1310
  clear hm_1283 hm_1284 hm_1285 hm_1286 hm_1287 hm_1288 hm_1289 hm_1290 hm_1291 hm_1292 hm_1293 hm_1294 hm_1295 hm_1296 hm_1297 hm_1298 hm_1299 hm_1300 hm_1301 hm_1302 fr_1304 fr_1305 fr_1306 fr_1307 fr_1308 fr_1309 fr_1310
  have hF_1347 : ∀ j : Nat, j ≠ 61 → j ≠ 60 → j ≠ 62 → j ≠ 63 → j ≠ 64 → j ≠ 65 → j ≠ 66 → j ≠ 67 → j ≠ 68 → j ≠ 69 → j ≠ 70 → j ≠ 71 → j ≠ 72 → j ≠ 73 → j ≠ 74 → j ≠ 75 → j ≠ 76 → j ≠ 77 → j ≠ 78 → j ≠ 79 → j ≠ 80 → M_1313 j = M j := fun j q0 q1 q2 q3 q4 q5 q6 q7 q8 q9 q10 q11 q12 q13 q14 q15 q16 q17 q18 q19 q20 => by rw [eM_1316, va_up_ne _ _ q20]; exact hF_1311 j q0 q1 q2 q3 q4 q5 q6 q7 q8 q9 q10 q11 q12 q13 q14 q15 q16 q17 q18 q19
  clear hF_1311
  refine n_eqs (show ([.ref (ad_1312 80), .ref (ad_1243 60)] : List Value) = [.ref (ad_1312 80), .ref (ad_1312 60)] from by rw [hAd_1318 60 (by decide)]) ?_
  refine h_putF (C := RX10) (T := TX10) (N := 38) hx hb hts i_RX10 tyX10 tyX10_ok nmX10 hown hI hm_1320 rfl 25 (by decide) f_72 rfl rfl hini rfl rfl rfl (Nat.le_of_ble_eq_true rfl) dX10_init_164 (fun M_1348 H_1349 locs_1350 eM_1351 hI => ?_)
  have hm_1352 : M_1348 60 = some (.inr (11, [.int (nI 0), .ref (ad_1312 61), .ref (ad_1312 62), .ref (ad_1312 63), .ref (ad_1312 64), .ref (ad_1312 65), .ref (ad_1312 66), .ref (ad_1312 67), .ref (ad_1312 68), .ref (ad_1312 69), .ref (ad_1312 70), .int (nI 0), .ref (ad_1312 71), .ref (ad_1312 72), .ref (ad_1312 73), .int (nI 0), .ref (ad_1312 74), .ref (ad_1312 75), .ref (ad_1312 76), .ref (ad_1312 77), .ref (ad_1312 78), .ref (ad_1312 79), .int (nI 0), .int (nI 0), .int (nI 0), .ref (ad_1312 80), .int (nI 0), .int (nI 0), .int (nI 0), .int (nI 0), .int (nI 0), .null, .null, .null, .null, .null, .null, .null])) := by rw [eM_1351]; exact va_up_self _ _ _
  have hm_1353 : M_1348 61 = some (aI G 36 (nF (fun _ => 0))) := by rw [eM_1351, va_up_ne _ _ (by decide)]; exact hm_1321
  have hm_1354 : M_1348 62 = some (aI G 36 (nF (fun _ => 0))) := by rw [eM_1351, va_up_ne _ _ (by decide)]; exact hm_1322
  have hm_1355 : M_1348 63 = some (aI G 36 (nF (fun _ => 0))) := by rw [eM_1351, va_up_ne _ _ (by decide)]; exact hm_1323
  have hm_1356 : M_1348 64 = some (aZ G 6 (bF (fun _ => false))) := by rw [eM_1351, va_up_ne _ _ (by decide)]; exact hm_1324
  have hm_1357 : M_1348 65 = some (aI G 120 (nF (fun _ => 0))) := by rw [eM_1351, va_up_ne _ _ (by decide)]; exact hm_1325
  have hm_1358 : M_1348 66 = some (aI G 120 (nF (fun _ => 0))) := by rw [eM_1351, va_up_ne _ _ (by decide)]; exact hm_1326
  have hm_1359 : M_1348 67 = some (aI G 120 (nF (fun _ => 0))) := by rw [eM_1351, va_up_ne _ _ (by decide)]; exact hm_1327
  have hm_1360 : M_1348 68 = some (aI G 121 (nF (fun _ => 0))) := by rw [eM_1351, va_up_ne _ _ (by decide)]; exact hm_1328
  have hm_1361 : M_1348 69 = some (aI G 726 (nF (fun _ => 0))) := by rw [eM_1351, va_up_ne _ _ (by decide)]; exact hm_1329
  have hm_1362 : M_1348 70 = some (aI G 726 (nF (fun _ => 0))) := by rw [eM_1351, va_up_ne _ _ (by decide)]; exact hm_1330
  have hm_1363 : M_1348 71 = some (aI G 40 (nF (fun _ => 0))) := by rw [eM_1351, va_up_ne _ _ (by decide)]; exact hm_1331
  have hm_1364 : M_1348 72 = some (aI G 40 (nF (fun _ => 0))) := by rw [eM_1351, va_up_ne _ _ (by decide)]; exact hm_1332
  have hm_1365 : M_1348 73 = some (aI G 40 (nF (fun _ => 0))) := by rw [eM_1351, va_up_ne _ _ (by decide)]; exact hm_1333
  have hm_1366 : M_1348 74 = some (aI G 120 (nF (fun _ => 0))) := by rw [eM_1351, va_up_ne _ _ (by decide)]; exact hm_1334
  have hm_1367 : M_1348 75 = some (aI G 12 (nF (fun _ => 0))) := by rw [eM_1351, va_up_ne _ _ (by decide)]; exact hm_1335
  have hm_1368 : M_1348 76 = some (aZ G 12 (bF (fun _ => false))) := by rw [eM_1351, va_up_ne _ _ (by decide)]; exact hm_1336
  have hm_1369 : M_1348 77 = some (aI G 12 (nF (fun _ => 0))) := by rw [eM_1351, va_up_ne _ _ (by decide)]; exact hm_1337
  have hm_1370 : M_1348 78 = some (aI G 48 (nF (fun _ => 0))) := by rw [eM_1351, va_up_ne _ _ (by decide)]; exact hm_1338
  have hm_1371 : M_1348 79 = some (aI G 48 (nF (fun _ => 0))) := by rw [eM_1351, va_up_ne _ _ (by decide)]; exact hm_1339
  have hm_1372 : M_1348 80 = some (aB G 400 (fun _ => 0)) := by rw [eM_1351, va_up_ne _ _ (by decide)]; exact hm_1319
  have fr_1373 : M_1348 81 = none := by rw [eM_1351, va_up_ne _ _ (by decide)]; exact fr_1340
  have fr_1374 : M_1348 82 = none := by rw [eM_1351, va_up_ne _ _ (by decide)]; exact fr_1341
  have fr_1375 : M_1348 83 = none := by rw [eM_1351, va_up_ne _ _ (by decide)]; exact fr_1342
  have fr_1376 : M_1348 84 = none := by rw [eM_1351, va_up_ne _ _ (by decide)]; exact fr_1343
  have fr_1377 : M_1348 85 = none := by rw [eM_1351, va_up_ne _ _ (by decide)]; exact fr_1344
  have fr_1378 : M_1348 86 = none := by rw [eM_1351, va_up_ne _ _ (by decide)]; exact fr_1345
  have fr_1379 : M_1348 87 = none := by rw [eM_1351, va_up_ne _ _ (by decide)]; exact fr_1346
  have hF_1380 : ∀ j : Nat, j ≠ 61 → j ≠ 60 → j ≠ 62 → j ≠ 63 → j ≠ 64 → j ≠ 65 → j ≠ 66 → j ≠ 67 → j ≠ 68 → j ≠ 69 → j ≠ 70 → j ≠ 71 → j ≠ 72 → j ≠ 73 → j ≠ 74 → j ≠ 75 → j ≠ 76 → j ≠ 77 → j ≠ 78 → j ≠ 79 → j ≠ 80 → M_1348 j = M j := fun j q0 q1 q2 q3 q4 q5 q6 q7 q8 q9 q10 q11 q12 q13 q14 q15 q16 q17 q18 q19 q20 => by rw [eM_1351, va_up_ne _ _ q1]; exact hF_1347 j q0 q1 q2 q3 q4 q5 q6 q7 q8 q9 q10 q11 q12 q13 q14 q15 q16 q17 q18 q19 q20
  clear hm_1320 hm_1321 hm_1322 hm_1323 hm_1324 hm_1325 hm_1326 hm_1327 hm_1328 hm_1329 hm_1330 hm_1331 hm_1332 hm_1333 hm_1334 hm_1335 hm_1336 hm_1337 hm_1338 hm_1339 hm_1319 fr_1340 fr_1341 fr_1342 fr_1343 fr_1344 fr_1345 fr_1346 hF_1347
  refine lv_aload_n hx hb dX10_init_167 rfl (lv_at hl 0 rfl) ?_
  refine n_eqv (show Value.ref (ad 60) = .ref (ad_1312 60) from by rw [hAd_1318 60 (by decide), hAd_1249 60 (by decide), hAd_1180 60 (by decide), hAd_1111 60 (by decide), hAd_1042 60 (by decide), hAd_973 60 (by decide), hAd_904 60 (by decide), hAd_835 60 (by decide), hAd_766 60 (by decide), hAd_697 60 (by decide), hAd_628 60 (by decide), hAd_559 60 (by decide), hAd_490 60 (by decide), hAd_421 60 (by decide), hAd_352 60 (by decide), hAd_283 60 (by decide), hAd_214 60 (by decide), hAd_145 60 (by decide), hAd_76 60 (by decide), hAd_7 60 (by decide)]) ?_
  refine lv_iconst (v := (-1)) hx hb dX10_init_168 (by decide) ?_
  refine h_put (C := RX10) (T := TX10) (N := 38) hx hb hts i_RX10 tyX10 tyX10_ok nmX10 hown hI hm_1352 rfl 30 (by decide) f_76 rfl rfl rfl rfl (Nat.le_of_ble_eq_true rfl) dX10_init_169 (fun M_1381 H_1382 locs_1383 eM_1384 hI => ?_)
  have hm_1385 : M_1381 60 = some (.inr (11, [.int (nI 0), .ref (ad_1312 61), .ref (ad_1312 62), .ref (ad_1312 63), .ref (ad_1312 64), .ref (ad_1312 65), .ref (ad_1312 66), .ref (ad_1312 67), .ref (ad_1312 68), .ref (ad_1312 69), .ref (ad_1312 70), .int (nI 0), .ref (ad_1312 71), .ref (ad_1312 72), .ref (ad_1312 73), .int (nI 0), .ref (ad_1312 74), .ref (ad_1312 75), .ref (ad_1312 76), .ref (ad_1312 77), .ref (ad_1312 78), .ref (ad_1312 79), .int (nI 0), .int (nI 0), .int (nI 0), .ref (ad_1312 80), .int (nI 0), .int (nI 0), .int (nI 0), .int (nI 0), .int (-1), .null, .null, .null, .null, .null, .null, .null])) := by rw [eM_1384]; exact va_up_self _ _ _
  have hm_1386 : M_1381 61 = some (aI G 36 (nF (fun _ => 0))) := by rw [eM_1384, va_up_ne _ _ (by decide)]; exact hm_1353
  have hm_1387 : M_1381 62 = some (aI G 36 (nF (fun _ => 0))) := by rw [eM_1384, va_up_ne _ _ (by decide)]; exact hm_1354
  have hm_1388 : M_1381 63 = some (aI G 36 (nF (fun _ => 0))) := by rw [eM_1384, va_up_ne _ _ (by decide)]; exact hm_1355
  have hm_1389 : M_1381 64 = some (aZ G 6 (bF (fun _ => false))) := by rw [eM_1384, va_up_ne _ _ (by decide)]; exact hm_1356
  have hm_1390 : M_1381 65 = some (aI G 120 (nF (fun _ => 0))) := by rw [eM_1384, va_up_ne _ _ (by decide)]; exact hm_1357
  have hm_1391 : M_1381 66 = some (aI G 120 (nF (fun _ => 0))) := by rw [eM_1384, va_up_ne _ _ (by decide)]; exact hm_1358
  have hm_1392 : M_1381 67 = some (aI G 120 (nF (fun _ => 0))) := by rw [eM_1384, va_up_ne _ _ (by decide)]; exact hm_1359
  have hm_1393 : M_1381 68 = some (aI G 121 (nF (fun _ => 0))) := by rw [eM_1384, va_up_ne _ _ (by decide)]; exact hm_1360
  have hm_1394 : M_1381 69 = some (aI G 726 (nF (fun _ => 0))) := by rw [eM_1384, va_up_ne _ _ (by decide)]; exact hm_1361
  have hm_1395 : M_1381 70 = some (aI G 726 (nF (fun _ => 0))) := by rw [eM_1384, va_up_ne _ _ (by decide)]; exact hm_1362
  have hm_1396 : M_1381 71 = some (aI G 40 (nF (fun _ => 0))) := by rw [eM_1384, va_up_ne _ _ (by decide)]; exact hm_1363
  have hm_1397 : M_1381 72 = some (aI G 40 (nF (fun _ => 0))) := by rw [eM_1384, va_up_ne _ _ (by decide)]; exact hm_1364
  have hm_1398 : M_1381 73 = some (aI G 40 (nF (fun _ => 0))) := by rw [eM_1384, va_up_ne _ _ (by decide)]; exact hm_1365
  have hm_1399 : M_1381 74 = some (aI G 120 (nF (fun _ => 0))) := by rw [eM_1384, va_up_ne _ _ (by decide)]; exact hm_1366
  have hm_1400 : M_1381 75 = some (aI G 12 (nF (fun _ => 0))) := by rw [eM_1384, va_up_ne _ _ (by decide)]; exact hm_1367
  have hm_1401 : M_1381 76 = some (aZ G 12 (bF (fun _ => false))) := by rw [eM_1384, va_up_ne _ _ (by decide)]; exact hm_1368
  have hm_1402 : M_1381 77 = some (aI G 12 (nF (fun _ => 0))) := by rw [eM_1384, va_up_ne _ _ (by decide)]; exact hm_1369
  have hm_1403 : M_1381 78 = some (aI G 48 (nF (fun _ => 0))) := by rw [eM_1384, va_up_ne _ _ (by decide)]; exact hm_1370
  have hm_1404 : M_1381 79 = some (aI G 48 (nF (fun _ => 0))) := by rw [eM_1384, va_up_ne _ _ (by decide)]; exact hm_1371
  have hm_1405 : M_1381 80 = some (aB G 400 (fun _ => 0)) := by rw [eM_1384, va_up_ne _ _ (by decide)]; exact hm_1372
  have fr_1406 : M_1381 81 = none := by rw [eM_1384, va_up_ne _ _ (by decide)]; exact fr_1373
  have fr_1407 : M_1381 82 = none := by rw [eM_1384, va_up_ne _ _ (by decide)]; exact fr_1374
  have fr_1408 : M_1381 83 = none := by rw [eM_1384, va_up_ne _ _ (by decide)]; exact fr_1375
  have fr_1409 : M_1381 84 = none := by rw [eM_1384, va_up_ne _ _ (by decide)]; exact fr_1376
  have fr_1410 : M_1381 85 = none := by rw [eM_1384, va_up_ne _ _ (by decide)]; exact fr_1377
  have fr_1411 : M_1381 86 = none := by rw [eM_1384, va_up_ne _ _ (by decide)]; exact fr_1378
  have fr_1412 : M_1381 87 = none := by rw [eM_1384, va_up_ne _ _ (by decide)]; exact fr_1379
  have hF_1413 : ∀ j : Nat, j ≠ 61 → j ≠ 60 → j ≠ 62 → j ≠ 63 → j ≠ 64 → j ≠ 65 → j ≠ 66 → j ≠ 67 → j ≠ 68 → j ≠ 69 → j ≠ 70 → j ≠ 71 → j ≠ 72 → j ≠ 73 → j ≠ 74 → j ≠ 75 → j ≠ 76 → j ≠ 77 → j ≠ 78 → j ≠ 79 → j ≠ 80 → M_1381 j = M j := fun j q0 q1 q2 q3 q4 q5 q6 q7 q8 q9 q10 q11 q12 q13 q14 q15 q16 q17 q18 q19 q20 => by rw [eM_1384, va_up_ne _ _ q1]; exact hF_1380 j q0 q1 q2 q3 q4 q5 q6 q7 q8 q9 q10 q11 q12 q13 q14 q15 q16 q17 q18 q19 q20
  clear hm_1352 hm_1353 hm_1354 hm_1355 hm_1356 hm_1357 hm_1358 hm_1359 hm_1360 hm_1361 hm_1362 hm_1363 hm_1364 hm_1365 hm_1366 hm_1367 hm_1368 hm_1369 hm_1370 hm_1371 hm_1372 fr_1373 fr_1374 fr_1375 fr_1376 fr_1377 fr_1378 fr_1379 hF_1380
  refine lv_aload_n hx hb dX10_init_172 rfl (lv_at hl 0 rfl) ?_
  refine n_eqv (show Value.ref (ad 60) = .ref (ad_1312 60) from by rw [hAd_1318 60 (by decide), hAd_1249 60 (by decide), hAd_1180 60 (by decide), hAd_1111 60 (by decide), hAd_1042 60 (by decide), hAd_973 60 (by decide), hAd_904 60 (by decide), hAd_835 60 (by decide), hAd_766 60 (by decide), hAd_697 60 (by decide), hAd_628 60 (by decide), hAd_559 60 (by decide), hAd_490 60 (by decide), hAd_421 60 (by decide), hAd_352 60 (by decide), hAd_283 60 (by decide), hAd_214 60 (by decide), hAd_145 60 (by decide), hAd_76 60 (by decide), hAd_7 60 (by decide)]) ?_
  refine lv_iconst (v := nI 5) hx hb dX10_init_173 (by decide) ?_
  refine h_newa (atype := .int) (n := 5) (a0 := (5, .inl (nF (fun _ => 0)))) hx hb na_int 0 (ty := .int) rfl rfl (fun C h => by cases h) hI (ha_int 5) (by decide) (by decide) (Nat.le_of_ble_eq_true rfl) (Nat.le_of_ble_eq_true rfl) dX10_init_174 81 fr_1406 (fun ad_1414 M_1415 H_1416 hA_1417 eM_1418 hI => ?_)
  have hAd_1420 : ∀ j : Nat, j ≠ 81 → ad_1414 j = ad_1312 j := fun j hj => by obtain ⟨q, e⟩ := hA_1417; rw [e]; exact va_up_ne _ _ hj
  have hm_1421 : M_1415 81 = some (aI G 5 (nF (fun _ => 0))) := by rw [eM_1418]; exact va_up_self _ _ _
  have hm_1422 : M_1415 60 = some (.inr (11, [.int (nI 0), .ref (ad_1414 61), .ref (ad_1414 62), .ref (ad_1414 63), .ref (ad_1414 64), .ref (ad_1414 65), .ref (ad_1414 66), .ref (ad_1414 67), .ref (ad_1414 68), .ref (ad_1414 69), .ref (ad_1414 70), .int (nI 0), .ref (ad_1414 71), .ref (ad_1414 72), .ref (ad_1414 73), .int (nI 0), .ref (ad_1414 74), .ref (ad_1414 75), .ref (ad_1414 76), .ref (ad_1414 77), .ref (ad_1414 78), .ref (ad_1414 79), .int (nI 0), .int (nI 0), .int (nI 0), .ref (ad_1414 80), .int (nI 0), .int (nI 0), .int (nI 0), .int (nI 0), .int (-1), .null, .null, .null, .null, .null, .null, .null])) := by rw [eM_1418, va_up_ne _ _ (by decide), hm_1385]; rw [hAd_1420 61 (by decide), hAd_1420 62 (by decide), hAd_1420 63 (by decide), hAd_1420 64 (by decide), hAd_1420 65 (by decide), hAd_1420 66 (by decide), hAd_1420 67 (by decide), hAd_1420 68 (by decide), hAd_1420 69 (by decide), hAd_1420 70 (by decide), hAd_1420 71 (by decide), hAd_1420 72 (by decide), hAd_1420 73 (by decide), hAd_1420 74 (by decide), hAd_1420 75 (by decide), hAd_1420 76 (by decide), hAd_1420 77 (by decide), hAd_1420 78 (by decide), hAd_1420 79 (by decide), hAd_1420 80 (by decide)]
  have hm_1423 : M_1415 61 = some (aI G 36 (nF (fun _ => 0))) := by rw [eM_1418, va_up_ne _ _ (by decide), hm_1386]
  have hm_1424 : M_1415 62 = some (aI G 36 (nF (fun _ => 0))) := by rw [eM_1418, va_up_ne _ _ (by decide), hm_1387]
  have hm_1425 : M_1415 63 = some (aI G 36 (nF (fun _ => 0))) := by rw [eM_1418, va_up_ne _ _ (by decide), hm_1388]
  have hm_1426 : M_1415 64 = some (aZ G 6 (bF (fun _ => false))) := by rw [eM_1418, va_up_ne _ _ (by decide), hm_1389]
  have hm_1427 : M_1415 65 = some (aI G 120 (nF (fun _ => 0))) := by rw [eM_1418, va_up_ne _ _ (by decide), hm_1390]
  have hm_1428 : M_1415 66 = some (aI G 120 (nF (fun _ => 0))) := by rw [eM_1418, va_up_ne _ _ (by decide), hm_1391]
  have hm_1429 : M_1415 67 = some (aI G 120 (nF (fun _ => 0))) := by rw [eM_1418, va_up_ne _ _ (by decide), hm_1392]
  have hm_1430 : M_1415 68 = some (aI G 121 (nF (fun _ => 0))) := by rw [eM_1418, va_up_ne _ _ (by decide), hm_1393]
  have hm_1431 : M_1415 69 = some (aI G 726 (nF (fun _ => 0))) := by rw [eM_1418, va_up_ne _ _ (by decide), hm_1394]
  have hm_1432 : M_1415 70 = some (aI G 726 (nF (fun _ => 0))) := by rw [eM_1418, va_up_ne _ _ (by decide), hm_1395]
  have hm_1433 : M_1415 71 = some (aI G 40 (nF (fun _ => 0))) := by rw [eM_1418, va_up_ne _ _ (by decide), hm_1396]
  have hm_1434 : M_1415 72 = some (aI G 40 (nF (fun _ => 0))) := by rw [eM_1418, va_up_ne _ _ (by decide), hm_1397]
  have hm_1435 : M_1415 73 = some (aI G 40 (nF (fun _ => 0))) := by rw [eM_1418, va_up_ne _ _ (by decide), hm_1398]
  have hm_1436 : M_1415 74 = some (aI G 120 (nF (fun _ => 0))) := by rw [eM_1418, va_up_ne _ _ (by decide), hm_1399]
  have hm_1437 : M_1415 75 = some (aI G 12 (nF (fun _ => 0))) := by rw [eM_1418, va_up_ne _ _ (by decide), hm_1400]
  have hm_1438 : M_1415 76 = some (aZ G 12 (bF (fun _ => false))) := by rw [eM_1418, va_up_ne _ _ (by decide), hm_1401]
  have hm_1439 : M_1415 77 = some (aI G 12 (nF (fun _ => 0))) := by rw [eM_1418, va_up_ne _ _ (by decide), hm_1402]
  have hm_1440 : M_1415 78 = some (aI G 48 (nF (fun _ => 0))) := by rw [eM_1418, va_up_ne _ _ (by decide), hm_1403]
  have hm_1441 : M_1415 79 = some (aI G 48 (nF (fun _ => 0))) := by rw [eM_1418, va_up_ne _ _ (by decide), hm_1404]
  have hm_1442 : M_1415 80 = some (aB G 400 (fun _ => 0)) := by rw [eM_1418, va_up_ne _ _ (by decide), hm_1405]
  have fr_1443 : M_1415 82 = none := by rw [eM_1418, va_up_ne _ _ (by decide)]; exact fr_1407
  have fr_1444 : M_1415 83 = none := by rw [eM_1418, va_up_ne _ _ (by decide)]; exact fr_1408
  have fr_1445 : M_1415 84 = none := by rw [eM_1418, va_up_ne _ _ (by decide)]; exact fr_1409
  have fr_1446 : M_1415 85 = none := by rw [eM_1418, va_up_ne _ _ (by decide)]; exact fr_1410
  have fr_1447 : M_1415 86 = none := by rw [eM_1418, va_up_ne _ _ (by decide)]; exact fr_1411
  have fr_1448 : M_1415 87 = none := by rw [eM_1418, va_up_ne _ _ (by decide)]; exact fr_1412
  clear hm_1385 hm_1386 hm_1387 hm_1388 hm_1389 hm_1390 hm_1391 hm_1392 hm_1393 hm_1394 hm_1395 hm_1396 hm_1397 hm_1398 hm_1399 hm_1400 hm_1401 hm_1402 hm_1403 hm_1404 hm_1405 fr_1407 fr_1408 fr_1409 fr_1410 fr_1411 fr_1412
  have hF_1449 : ∀ j : Nat, j ≠ 61 → j ≠ 60 → j ≠ 62 → j ≠ 63 → j ≠ 64 → j ≠ 65 → j ≠ 66 → j ≠ 67 → j ≠ 68 → j ≠ 69 → j ≠ 70 → j ≠ 71 → j ≠ 72 → j ≠ 73 → j ≠ 74 → j ≠ 75 → j ≠ 76 → j ≠ 77 → j ≠ 78 → j ≠ 79 → j ≠ 80 → j ≠ 81 → M_1415 j = M j := fun j q0 q1 q2 q3 q4 q5 q6 q7 q8 q9 q10 q11 q12 q13 q14 q15 q16 q17 q18 q19 q20 q21 => by rw [eM_1418, va_up_ne _ _ q21]; exact hF_1413 j q0 q1 q2 q3 q4 q5 q6 q7 q8 q9 q10 q11 q12 q13 q14 q15 q16 q17 q18 q19 q20
  clear hF_1413
  refine n_eqs (show ([.ref (ad_1414 81), .ref (ad_1312 60)] : List Value) = [.ref (ad_1414 81), .ref (ad_1414 60)] from by rw [hAd_1420 60 (by decide)]) ?_
  refine h_putF (C := RX10) (T := TX10) (N := 38) hx hb hts i_RX10 tyX10 tyX10_ok nmX10 hown hI hm_1422 rfl 31 (by decide) f_79 rfl rfl hini rfl rfl rfl (Nat.le_of_ble_eq_true rfl) dX10_init_176 (fun M_1450 H_1451 locs_1452 eM_1453 hI => ?_)
  have hm_1454 : M_1450 60 = some (.inr (11, [.int (nI 0), .ref (ad_1414 61), .ref (ad_1414 62), .ref (ad_1414 63), .ref (ad_1414 64), .ref (ad_1414 65), .ref (ad_1414 66), .ref (ad_1414 67), .ref (ad_1414 68), .ref (ad_1414 69), .ref (ad_1414 70), .int (nI 0), .ref (ad_1414 71), .ref (ad_1414 72), .ref (ad_1414 73), .int (nI 0), .ref (ad_1414 74), .ref (ad_1414 75), .ref (ad_1414 76), .ref (ad_1414 77), .ref (ad_1414 78), .ref (ad_1414 79), .int (nI 0), .int (nI 0), .int (nI 0), .ref (ad_1414 80), .int (nI 0), .int (nI 0), .int (nI 0), .int (nI 0), .int (-1), .ref (ad_1414 81), .null, .null, .null, .null, .null, .null])) := by rw [eM_1453]; exact va_up_self _ _ _
  have hm_1455 : M_1450 61 = some (aI G 36 (nF (fun _ => 0))) := by rw [eM_1453, va_up_ne _ _ (by decide)]; exact hm_1423
  have hm_1456 : M_1450 62 = some (aI G 36 (nF (fun _ => 0))) := by rw [eM_1453, va_up_ne _ _ (by decide)]; exact hm_1424
  have hm_1457 : M_1450 63 = some (aI G 36 (nF (fun _ => 0))) := by rw [eM_1453, va_up_ne _ _ (by decide)]; exact hm_1425
  have hm_1458 : M_1450 64 = some (aZ G 6 (bF (fun _ => false))) := by rw [eM_1453, va_up_ne _ _ (by decide)]; exact hm_1426
  have hm_1459 : M_1450 65 = some (aI G 120 (nF (fun _ => 0))) := by rw [eM_1453, va_up_ne _ _ (by decide)]; exact hm_1427
  have hm_1460 : M_1450 66 = some (aI G 120 (nF (fun _ => 0))) := by rw [eM_1453, va_up_ne _ _ (by decide)]; exact hm_1428
  have hm_1461 : M_1450 67 = some (aI G 120 (nF (fun _ => 0))) := by rw [eM_1453, va_up_ne _ _ (by decide)]; exact hm_1429
  have hm_1462 : M_1450 68 = some (aI G 121 (nF (fun _ => 0))) := by rw [eM_1453, va_up_ne _ _ (by decide)]; exact hm_1430
  have hm_1463 : M_1450 69 = some (aI G 726 (nF (fun _ => 0))) := by rw [eM_1453, va_up_ne _ _ (by decide)]; exact hm_1431
  have hm_1464 : M_1450 70 = some (aI G 726 (nF (fun _ => 0))) := by rw [eM_1453, va_up_ne _ _ (by decide)]; exact hm_1432
  have hm_1465 : M_1450 71 = some (aI G 40 (nF (fun _ => 0))) := by rw [eM_1453, va_up_ne _ _ (by decide)]; exact hm_1433
  have hm_1466 : M_1450 72 = some (aI G 40 (nF (fun _ => 0))) := by rw [eM_1453, va_up_ne _ _ (by decide)]; exact hm_1434
  have hm_1467 : M_1450 73 = some (aI G 40 (nF (fun _ => 0))) := by rw [eM_1453, va_up_ne _ _ (by decide)]; exact hm_1435
  have hm_1468 : M_1450 74 = some (aI G 120 (nF (fun _ => 0))) := by rw [eM_1453, va_up_ne _ _ (by decide)]; exact hm_1436
  have hm_1469 : M_1450 75 = some (aI G 12 (nF (fun _ => 0))) := by rw [eM_1453, va_up_ne _ _ (by decide)]; exact hm_1437
  have hm_1470 : M_1450 76 = some (aZ G 12 (bF (fun _ => false))) := by rw [eM_1453, va_up_ne _ _ (by decide)]; exact hm_1438
  have hm_1471 : M_1450 77 = some (aI G 12 (nF (fun _ => 0))) := by rw [eM_1453, va_up_ne _ _ (by decide)]; exact hm_1439
  have hm_1472 : M_1450 78 = some (aI G 48 (nF (fun _ => 0))) := by rw [eM_1453, va_up_ne _ _ (by decide)]; exact hm_1440
  have hm_1473 : M_1450 79 = some (aI G 48 (nF (fun _ => 0))) := by rw [eM_1453, va_up_ne _ _ (by decide)]; exact hm_1441
  have hm_1474 : M_1450 80 = some (aB G 400 (fun _ => 0)) := by rw [eM_1453, va_up_ne _ _ (by decide)]; exact hm_1442
  have hm_1475 : M_1450 81 = some (aI G 5 (nF (fun _ => 0))) := by rw [eM_1453, va_up_ne _ _ (by decide)]; exact hm_1421
  have fr_1476 : M_1450 82 = none := by rw [eM_1453, va_up_ne _ _ (by decide)]; exact fr_1443
  have fr_1477 : M_1450 83 = none := by rw [eM_1453, va_up_ne _ _ (by decide)]; exact fr_1444
  have fr_1478 : M_1450 84 = none := by rw [eM_1453, va_up_ne _ _ (by decide)]; exact fr_1445
  have fr_1479 : M_1450 85 = none := by rw [eM_1453, va_up_ne _ _ (by decide)]; exact fr_1446
  have fr_1480 : M_1450 86 = none := by rw [eM_1453, va_up_ne _ _ (by decide)]; exact fr_1447
  have fr_1481 : M_1450 87 = none := by rw [eM_1453, va_up_ne _ _ (by decide)]; exact fr_1448
  have hF_1482 : ∀ j : Nat, j ≠ 61 → j ≠ 60 → j ≠ 62 → j ≠ 63 → j ≠ 64 → j ≠ 65 → j ≠ 66 → j ≠ 67 → j ≠ 68 → j ≠ 69 → j ≠ 70 → j ≠ 71 → j ≠ 72 → j ≠ 73 → j ≠ 74 → j ≠ 75 → j ≠ 76 → j ≠ 77 → j ≠ 78 → j ≠ 79 → j ≠ 80 → j ≠ 81 → M_1450 j = M j := fun j q0 q1 q2 q3 q4 q5 q6 q7 q8 q9 q10 q11 q12 q13 q14 q15 q16 q17 q18 q19 q20 q21 => by rw [eM_1453, va_up_ne _ _ q1]; exact hF_1449 j q0 q1 q2 q3 q4 q5 q6 q7 q8 q9 q10 q11 q12 q13 q14 q15 q16 q17 q18 q19 q20 q21
  clear hm_1422 hm_1423 hm_1424 hm_1425 hm_1426 hm_1427 hm_1428 hm_1429 hm_1430 hm_1431 hm_1432 hm_1433 hm_1434 hm_1435 hm_1436 hm_1437 hm_1438 hm_1439 hm_1440 hm_1441 hm_1442 hm_1421 fr_1443 fr_1444 fr_1445 fr_1446 fr_1447 fr_1448 hF_1449
  refine lv_aload_n hx hb dX10_init_179 rfl (lv_at hl 0 rfl) ?_
  refine n_eqv (show Value.ref (ad 60) = .ref (ad_1414 60) from by rw [hAd_1420 60 (by decide), hAd_1318 60 (by decide), hAd_1249 60 (by decide), hAd_1180 60 (by decide), hAd_1111 60 (by decide), hAd_1042 60 (by decide), hAd_973 60 (by decide), hAd_904 60 (by decide), hAd_835 60 (by decide), hAd_766 60 (by decide), hAd_697 60 (by decide), hAd_628 60 (by decide), hAd_559 60 (by decide), hAd_490 60 (by decide), hAd_421 60 (by decide), hAd_352 60 (by decide), hAd_283 60 (by decide), hAd_214 60 (by decide), hAd_145 60 (by decide), hAd_76 60 (by decide), hAd_7 60 (by decide)]) ?_
  refine lv_ldc hx hb hown k_82 dX10_init_180 ?_
  refine n_eq (show _ = nI 384000 from rfl) ?_
  refine h_newa (atype := .boolean) (n := 384000) (a0 := (384000, .inl (bF (fun _ => false)))) hx hb na_boolean 1 (ty := .boolean) rfl rfl (fun C h => by cases h) hI (ha_boolean 384000) (by decide) (by decide) (Nat.le_of_ble_eq_true rfl) (Nat.le_of_ble_eq_true rfl) dX10_init_182 82 fr_1476 (fun ad_1483 M_1484 H_1485 hA_1486 eM_1487 hI => ?_)
  have hAd_1489 : ∀ j : Nat, j ≠ 82 → ad_1483 j = ad_1414 j := fun j hj => by obtain ⟨q, e⟩ := hA_1486; rw [e]; exact va_up_ne _ _ hj
  have hm_1490 : M_1484 82 = some (aZ G 384000 (bF (fun _ => false))) := by rw [eM_1487]; exact va_up_self _ _ _
  have hm_1491 : M_1484 60 = some (.inr (11, [.int (nI 0), .ref (ad_1483 61), .ref (ad_1483 62), .ref (ad_1483 63), .ref (ad_1483 64), .ref (ad_1483 65), .ref (ad_1483 66), .ref (ad_1483 67), .ref (ad_1483 68), .ref (ad_1483 69), .ref (ad_1483 70), .int (nI 0), .ref (ad_1483 71), .ref (ad_1483 72), .ref (ad_1483 73), .int (nI 0), .ref (ad_1483 74), .ref (ad_1483 75), .ref (ad_1483 76), .ref (ad_1483 77), .ref (ad_1483 78), .ref (ad_1483 79), .int (nI 0), .int (nI 0), .int (nI 0), .ref (ad_1483 80), .int (nI 0), .int (nI 0), .int (nI 0), .int (nI 0), .int (-1), .ref (ad_1483 81), .null, .null, .null, .null, .null, .null])) := by rw [eM_1487, va_up_ne _ _ (by decide), hm_1454]; rw [hAd_1489 61 (by decide), hAd_1489 62 (by decide), hAd_1489 63 (by decide), hAd_1489 64 (by decide), hAd_1489 65 (by decide), hAd_1489 66 (by decide), hAd_1489 67 (by decide), hAd_1489 68 (by decide), hAd_1489 69 (by decide), hAd_1489 70 (by decide), hAd_1489 71 (by decide), hAd_1489 72 (by decide), hAd_1489 73 (by decide), hAd_1489 74 (by decide), hAd_1489 75 (by decide), hAd_1489 76 (by decide), hAd_1489 77 (by decide), hAd_1489 78 (by decide), hAd_1489 79 (by decide), hAd_1489 80 (by decide), hAd_1489 81 (by decide)]
  have hm_1492 : M_1484 61 = some (aI G 36 (nF (fun _ => 0))) := by rw [eM_1487, va_up_ne _ _ (by decide), hm_1455]
  have hm_1493 : M_1484 62 = some (aI G 36 (nF (fun _ => 0))) := by rw [eM_1487, va_up_ne _ _ (by decide), hm_1456]
  have hm_1494 : M_1484 63 = some (aI G 36 (nF (fun _ => 0))) := by rw [eM_1487, va_up_ne _ _ (by decide), hm_1457]
  have hm_1495 : M_1484 64 = some (aZ G 6 (bF (fun _ => false))) := by rw [eM_1487, va_up_ne _ _ (by decide), hm_1458]
  have hm_1496 : M_1484 65 = some (aI G 120 (nF (fun _ => 0))) := by rw [eM_1487, va_up_ne _ _ (by decide), hm_1459]
  have hm_1497 : M_1484 66 = some (aI G 120 (nF (fun _ => 0))) := by rw [eM_1487, va_up_ne _ _ (by decide), hm_1460]
  have hm_1498 : M_1484 67 = some (aI G 120 (nF (fun _ => 0))) := by rw [eM_1487, va_up_ne _ _ (by decide), hm_1461]
  have hm_1499 : M_1484 68 = some (aI G 121 (nF (fun _ => 0))) := by rw [eM_1487, va_up_ne _ _ (by decide), hm_1462]
  have hm_1500 : M_1484 69 = some (aI G 726 (nF (fun _ => 0))) := by rw [eM_1487, va_up_ne _ _ (by decide), hm_1463]
  have hm_1501 : M_1484 70 = some (aI G 726 (nF (fun _ => 0))) := by rw [eM_1487, va_up_ne _ _ (by decide), hm_1464]
  have hm_1502 : M_1484 71 = some (aI G 40 (nF (fun _ => 0))) := by rw [eM_1487, va_up_ne _ _ (by decide), hm_1465]
  have hm_1503 : M_1484 72 = some (aI G 40 (nF (fun _ => 0))) := by rw [eM_1487, va_up_ne _ _ (by decide), hm_1466]
  have hm_1504 : M_1484 73 = some (aI G 40 (nF (fun _ => 0))) := by rw [eM_1487, va_up_ne _ _ (by decide), hm_1467]
  have hm_1505 : M_1484 74 = some (aI G 120 (nF (fun _ => 0))) := by rw [eM_1487, va_up_ne _ _ (by decide), hm_1468]
  have hm_1506 : M_1484 75 = some (aI G 12 (nF (fun _ => 0))) := by rw [eM_1487, va_up_ne _ _ (by decide), hm_1469]
  have hm_1507 : M_1484 76 = some (aZ G 12 (bF (fun _ => false))) := by rw [eM_1487, va_up_ne _ _ (by decide), hm_1470]
  have hm_1508 : M_1484 77 = some (aI G 12 (nF (fun _ => 0))) := by rw [eM_1487, va_up_ne _ _ (by decide), hm_1471]
  have hm_1509 : M_1484 78 = some (aI G 48 (nF (fun _ => 0))) := by rw [eM_1487, va_up_ne _ _ (by decide), hm_1472]
  have hm_1510 : M_1484 79 = some (aI G 48 (nF (fun _ => 0))) := by rw [eM_1487, va_up_ne _ _ (by decide), hm_1473]
  have hm_1511 : M_1484 80 = some (aB G 400 (fun _ => 0)) := by rw [eM_1487, va_up_ne _ _ (by decide), hm_1474]
  have hm_1512 : M_1484 81 = some (aI G 5 (nF (fun _ => 0))) := by rw [eM_1487, va_up_ne _ _ (by decide), hm_1475]
  have fr_1513 : M_1484 83 = none := by rw [eM_1487, va_up_ne _ _ (by decide)]; exact fr_1477
  have fr_1514 : M_1484 84 = none := by rw [eM_1487, va_up_ne _ _ (by decide)]; exact fr_1478
  have fr_1515 : M_1484 85 = none := by rw [eM_1487, va_up_ne _ _ (by decide)]; exact fr_1479
  have fr_1516 : M_1484 86 = none := by rw [eM_1487, va_up_ne _ _ (by decide)]; exact fr_1480
  have fr_1517 : M_1484 87 = none := by rw [eM_1487, va_up_ne _ _ (by decide)]; exact fr_1481
  clear hm_1454 hm_1455 hm_1456 hm_1457 hm_1458 hm_1459 hm_1460 hm_1461 hm_1462 hm_1463 hm_1464 hm_1465 hm_1466 hm_1467 hm_1468 hm_1469 hm_1470 hm_1471 hm_1472 hm_1473 hm_1474 hm_1475 fr_1477 fr_1478 fr_1479 fr_1480 fr_1481
  have hF_1518 : ∀ j : Nat, j ≠ 61 → j ≠ 60 → j ≠ 62 → j ≠ 63 → j ≠ 64 → j ≠ 65 → j ≠ 66 → j ≠ 67 → j ≠ 68 → j ≠ 69 → j ≠ 70 → j ≠ 71 → j ≠ 72 → j ≠ 73 → j ≠ 74 → j ≠ 75 → j ≠ 76 → j ≠ 77 → j ≠ 78 → j ≠ 79 → j ≠ 80 → j ≠ 81 → j ≠ 82 → M_1484 j = M j := fun j q0 q1 q2 q3 q4 q5 q6 q7 q8 q9 q10 q11 q12 q13 q14 q15 q16 q17 q18 q19 q20 q21 q22 => by rw [eM_1487, va_up_ne _ _ q22]; exact hF_1482 j q0 q1 q2 q3 q4 q5 q6 q7 q8 q9 q10 q11 q12 q13 q14 q15 q16 q17 q18 q19 q20 q21
  clear hF_1482
  refine n_eqs (show ([.ref (ad_1483 82), .ref (ad_1414 60)] : List Value) = [.ref (ad_1483 82), .ref (ad_1483 60)] from by rw [hAd_1489 60 (by decide)]) ?_
  refine h_putF (C := RX10) (T := TX10) (N := 38) hx hb hts i_RX10 tyX10 tyX10_ok nmX10 hown hI hm_1491 rfl 32 (by decide) f_83 rfl rfl hini rfl rfl rfl (Nat.le_of_ble_eq_true rfl) dX10_init_184 (fun M_1519 H_1520 locs_1521 eM_1522 hI => ?_)
  have hm_1523 : M_1519 60 = some (.inr (11, [.int (nI 0), .ref (ad_1483 61), .ref (ad_1483 62), .ref (ad_1483 63), .ref (ad_1483 64), .ref (ad_1483 65), .ref (ad_1483 66), .ref (ad_1483 67), .ref (ad_1483 68), .ref (ad_1483 69), .ref (ad_1483 70), .int (nI 0), .ref (ad_1483 71), .ref (ad_1483 72), .ref (ad_1483 73), .int (nI 0), .ref (ad_1483 74), .ref (ad_1483 75), .ref (ad_1483 76), .ref (ad_1483 77), .ref (ad_1483 78), .ref (ad_1483 79), .int (nI 0), .int (nI 0), .int (nI 0), .ref (ad_1483 80), .int (nI 0), .int (nI 0), .int (nI 0), .int (nI 0), .int (-1), .ref (ad_1483 81), .ref (ad_1483 82), .null, .null, .null, .null, .null])) := by rw [eM_1522]; exact va_up_self _ _ _
  have hm_1524 : M_1519 61 = some (aI G 36 (nF (fun _ => 0))) := by rw [eM_1522, va_up_ne _ _ (by decide)]; exact hm_1492
  have hm_1525 : M_1519 62 = some (aI G 36 (nF (fun _ => 0))) := by rw [eM_1522, va_up_ne _ _ (by decide)]; exact hm_1493
  have hm_1526 : M_1519 63 = some (aI G 36 (nF (fun _ => 0))) := by rw [eM_1522, va_up_ne _ _ (by decide)]; exact hm_1494
  have hm_1527 : M_1519 64 = some (aZ G 6 (bF (fun _ => false))) := by rw [eM_1522, va_up_ne _ _ (by decide)]; exact hm_1495
  have hm_1528 : M_1519 65 = some (aI G 120 (nF (fun _ => 0))) := by rw [eM_1522, va_up_ne _ _ (by decide)]; exact hm_1496
  have hm_1529 : M_1519 66 = some (aI G 120 (nF (fun _ => 0))) := by rw [eM_1522, va_up_ne _ _ (by decide)]; exact hm_1497
  have hm_1530 : M_1519 67 = some (aI G 120 (nF (fun _ => 0))) := by rw [eM_1522, va_up_ne _ _ (by decide)]; exact hm_1498
  have hm_1531 : M_1519 68 = some (aI G 121 (nF (fun _ => 0))) := by rw [eM_1522, va_up_ne _ _ (by decide)]; exact hm_1499
  have hm_1532 : M_1519 69 = some (aI G 726 (nF (fun _ => 0))) := by rw [eM_1522, va_up_ne _ _ (by decide)]; exact hm_1500
  have hm_1533 : M_1519 70 = some (aI G 726 (nF (fun _ => 0))) := by rw [eM_1522, va_up_ne _ _ (by decide)]; exact hm_1501
  have hm_1534 : M_1519 71 = some (aI G 40 (nF (fun _ => 0))) := by rw [eM_1522, va_up_ne _ _ (by decide)]; exact hm_1502
  have hm_1535 : M_1519 72 = some (aI G 40 (nF (fun _ => 0))) := by rw [eM_1522, va_up_ne _ _ (by decide)]; exact hm_1503
  have hm_1536 : M_1519 73 = some (aI G 40 (nF (fun _ => 0))) := by rw [eM_1522, va_up_ne _ _ (by decide)]; exact hm_1504
  have hm_1537 : M_1519 74 = some (aI G 120 (nF (fun _ => 0))) := by rw [eM_1522, va_up_ne _ _ (by decide)]; exact hm_1505
  have hm_1538 : M_1519 75 = some (aI G 12 (nF (fun _ => 0))) := by rw [eM_1522, va_up_ne _ _ (by decide)]; exact hm_1506
  have hm_1539 : M_1519 76 = some (aZ G 12 (bF (fun _ => false))) := by rw [eM_1522, va_up_ne _ _ (by decide)]; exact hm_1507
  have hm_1540 : M_1519 77 = some (aI G 12 (nF (fun _ => 0))) := by rw [eM_1522, va_up_ne _ _ (by decide)]; exact hm_1508
  have hm_1541 : M_1519 78 = some (aI G 48 (nF (fun _ => 0))) := by rw [eM_1522, va_up_ne _ _ (by decide)]; exact hm_1509
  have hm_1542 : M_1519 79 = some (aI G 48 (nF (fun _ => 0))) := by rw [eM_1522, va_up_ne _ _ (by decide)]; exact hm_1510
  have hm_1543 : M_1519 80 = some (aB G 400 (fun _ => 0)) := by rw [eM_1522, va_up_ne _ _ (by decide)]; exact hm_1511
  have hm_1544 : M_1519 81 = some (aI G 5 (nF (fun _ => 0))) := by rw [eM_1522, va_up_ne _ _ (by decide)]; exact hm_1512
  have hm_1545 : M_1519 82 = some (aZ G 384000 (bF (fun _ => false))) := by rw [eM_1522, va_up_ne _ _ (by decide)]; exact hm_1490
  have fr_1546 : M_1519 83 = none := by rw [eM_1522, va_up_ne _ _ (by decide)]; exact fr_1513
  have fr_1547 : M_1519 84 = none := by rw [eM_1522, va_up_ne _ _ (by decide)]; exact fr_1514
  have fr_1548 : M_1519 85 = none := by rw [eM_1522, va_up_ne _ _ (by decide)]; exact fr_1515
  have fr_1549 : M_1519 86 = none := by rw [eM_1522, va_up_ne _ _ (by decide)]; exact fr_1516
  have fr_1550 : M_1519 87 = none := by rw [eM_1522, va_up_ne _ _ (by decide)]; exact fr_1517
  have hF_1551 : ∀ j : Nat, j ≠ 61 → j ≠ 60 → j ≠ 62 → j ≠ 63 → j ≠ 64 → j ≠ 65 → j ≠ 66 → j ≠ 67 → j ≠ 68 → j ≠ 69 → j ≠ 70 → j ≠ 71 → j ≠ 72 → j ≠ 73 → j ≠ 74 → j ≠ 75 → j ≠ 76 → j ≠ 77 → j ≠ 78 → j ≠ 79 → j ≠ 80 → j ≠ 81 → j ≠ 82 → M_1519 j = M j := fun j q0 q1 q2 q3 q4 q5 q6 q7 q8 q9 q10 q11 q12 q13 q14 q15 q16 q17 q18 q19 q20 q21 q22 => by rw [eM_1522, va_up_ne _ _ q1]; exact hF_1518 j q0 q1 q2 q3 q4 q5 q6 q7 q8 q9 q10 q11 q12 q13 q14 q15 q16 q17 q18 q19 q20 q21 q22
  clear hm_1491 hm_1492 hm_1493 hm_1494 hm_1495 hm_1496 hm_1497 hm_1498 hm_1499 hm_1500 hm_1501 hm_1502 hm_1503 hm_1504 hm_1505 hm_1506 hm_1507 hm_1508 hm_1509 hm_1510 hm_1511 hm_1512 hm_1490 fr_1513 fr_1514 fr_1515 fr_1516 fr_1517 hF_1518
  refine lv_aload_n hx hb dX10_init_187 rfl (lv_at hl 0 rfl) ?_
  refine n_eqv (show Value.ref (ad 60) = .ref (ad_1483 60) from by rw [hAd_1489 60 (by decide), hAd_1420 60 (by decide), hAd_1318 60 (by decide), hAd_1249 60 (by decide), hAd_1180 60 (by decide), hAd_1111 60 (by decide), hAd_1042 60 (by decide), hAd_973 60 (by decide), hAd_904 60 (by decide), hAd_835 60 (by decide), hAd_766 60 (by decide), hAd_697 60 (by decide), hAd_628 60 (by decide), hAd_559 60 (by decide), hAd_490 60 (by decide), hAd_421 60 (by decide), hAd_352 60 (by decide), hAd_283 60 (by decide), hAd_214 60 (by decide), hAd_145 60 (by decide), hAd_76 60 (by decide), hAd_7 60 (by decide)]) ?_
  refine lv_iconst (v := nI 3) hx hb dX10_init_188 (by decide) ?_
  refine h_newa (atype := .int) (n := 3) (a0 := (3, .inl (nF (fun _ => 0)))) hx hb na_int 0 (ty := .int) rfl rfl (fun C h => by cases h) hI (ha_int 3) (by decide) (by decide) (Nat.le_of_ble_eq_true rfl) (Nat.le_of_ble_eq_true rfl) dX10_init_189 83 fr_1546 (fun ad_1552 M_1553 H_1554 hA_1555 eM_1556 hI => ?_)
  have hAd_1558 : ∀ j : Nat, j ≠ 83 → ad_1552 j = ad_1483 j := fun j hj => by obtain ⟨q, e⟩ := hA_1555; rw [e]; exact va_up_ne _ _ hj
  have hm_1559 : M_1553 83 = some (aI G 3 (nF (fun _ => 0))) := by rw [eM_1556]; exact va_up_self _ _ _
  have hm_1560 : M_1553 60 = some (.inr (11, [.int (nI 0), .ref (ad_1552 61), .ref (ad_1552 62), .ref (ad_1552 63), .ref (ad_1552 64), .ref (ad_1552 65), .ref (ad_1552 66), .ref (ad_1552 67), .ref (ad_1552 68), .ref (ad_1552 69), .ref (ad_1552 70), .int (nI 0), .ref (ad_1552 71), .ref (ad_1552 72), .ref (ad_1552 73), .int (nI 0), .ref (ad_1552 74), .ref (ad_1552 75), .ref (ad_1552 76), .ref (ad_1552 77), .ref (ad_1552 78), .ref (ad_1552 79), .int (nI 0), .int (nI 0), .int (nI 0), .ref (ad_1552 80), .int (nI 0), .int (nI 0), .int (nI 0), .int (nI 0), .int (-1), .ref (ad_1552 81), .ref (ad_1552 82), .null, .null, .null, .null, .null])) := by rw [eM_1556, va_up_ne _ _ (by decide), hm_1523]; rw [hAd_1558 61 (by decide), hAd_1558 62 (by decide), hAd_1558 63 (by decide), hAd_1558 64 (by decide), hAd_1558 65 (by decide), hAd_1558 66 (by decide), hAd_1558 67 (by decide), hAd_1558 68 (by decide), hAd_1558 69 (by decide), hAd_1558 70 (by decide), hAd_1558 71 (by decide), hAd_1558 72 (by decide), hAd_1558 73 (by decide), hAd_1558 74 (by decide), hAd_1558 75 (by decide), hAd_1558 76 (by decide), hAd_1558 77 (by decide), hAd_1558 78 (by decide), hAd_1558 79 (by decide), hAd_1558 80 (by decide), hAd_1558 81 (by decide), hAd_1558 82 (by decide)]
  have hm_1561 : M_1553 61 = some (aI G 36 (nF (fun _ => 0))) := by rw [eM_1556, va_up_ne _ _ (by decide), hm_1524]
  have hm_1562 : M_1553 62 = some (aI G 36 (nF (fun _ => 0))) := by rw [eM_1556, va_up_ne _ _ (by decide), hm_1525]
  have hm_1563 : M_1553 63 = some (aI G 36 (nF (fun _ => 0))) := by rw [eM_1556, va_up_ne _ _ (by decide), hm_1526]
  have hm_1564 : M_1553 64 = some (aZ G 6 (bF (fun _ => false))) := by rw [eM_1556, va_up_ne _ _ (by decide), hm_1527]
  have hm_1565 : M_1553 65 = some (aI G 120 (nF (fun _ => 0))) := by rw [eM_1556, va_up_ne _ _ (by decide), hm_1528]
  have hm_1566 : M_1553 66 = some (aI G 120 (nF (fun _ => 0))) := by rw [eM_1556, va_up_ne _ _ (by decide), hm_1529]
  have hm_1567 : M_1553 67 = some (aI G 120 (nF (fun _ => 0))) := by rw [eM_1556, va_up_ne _ _ (by decide), hm_1530]
  have hm_1568 : M_1553 68 = some (aI G 121 (nF (fun _ => 0))) := by rw [eM_1556, va_up_ne _ _ (by decide), hm_1531]
  have hm_1569 : M_1553 69 = some (aI G 726 (nF (fun _ => 0))) := by rw [eM_1556, va_up_ne _ _ (by decide), hm_1532]
  have hm_1570 : M_1553 70 = some (aI G 726 (nF (fun _ => 0))) := by rw [eM_1556, va_up_ne _ _ (by decide), hm_1533]
  have hm_1571 : M_1553 71 = some (aI G 40 (nF (fun _ => 0))) := by rw [eM_1556, va_up_ne _ _ (by decide), hm_1534]
  have hm_1572 : M_1553 72 = some (aI G 40 (nF (fun _ => 0))) := by rw [eM_1556, va_up_ne _ _ (by decide), hm_1535]
  have hm_1573 : M_1553 73 = some (aI G 40 (nF (fun _ => 0))) := by rw [eM_1556, va_up_ne _ _ (by decide), hm_1536]
  have hm_1574 : M_1553 74 = some (aI G 120 (nF (fun _ => 0))) := by rw [eM_1556, va_up_ne _ _ (by decide), hm_1537]
  have hm_1575 : M_1553 75 = some (aI G 12 (nF (fun _ => 0))) := by rw [eM_1556, va_up_ne _ _ (by decide), hm_1538]
  have hm_1576 : M_1553 76 = some (aZ G 12 (bF (fun _ => false))) := by rw [eM_1556, va_up_ne _ _ (by decide), hm_1539]
  have hm_1577 : M_1553 77 = some (aI G 12 (nF (fun _ => 0))) := by rw [eM_1556, va_up_ne _ _ (by decide), hm_1540]
  have hm_1578 : M_1553 78 = some (aI G 48 (nF (fun _ => 0))) := by rw [eM_1556, va_up_ne _ _ (by decide), hm_1541]
  have hm_1579 : M_1553 79 = some (aI G 48 (nF (fun _ => 0))) := by rw [eM_1556, va_up_ne _ _ (by decide), hm_1542]
  have hm_1580 : M_1553 80 = some (aB G 400 (fun _ => 0)) := by rw [eM_1556, va_up_ne _ _ (by decide), hm_1543]
  have hm_1581 : M_1553 81 = some (aI G 5 (nF (fun _ => 0))) := by rw [eM_1556, va_up_ne _ _ (by decide), hm_1544]
  have hm_1582 : M_1553 82 = some (aZ G 384000 (bF (fun _ => false))) := by rw [eM_1556, va_up_ne _ _ (by decide), hm_1545]
  have fr_1583 : M_1553 84 = none := by rw [eM_1556, va_up_ne _ _ (by decide)]; exact fr_1547
  have fr_1584 : M_1553 85 = none := by rw [eM_1556, va_up_ne _ _ (by decide)]; exact fr_1548
  have fr_1585 : M_1553 86 = none := by rw [eM_1556, va_up_ne _ _ (by decide)]; exact fr_1549
  have fr_1586 : M_1553 87 = none := by rw [eM_1556, va_up_ne _ _ (by decide)]; exact fr_1550
  clear hm_1523 hm_1524 hm_1525 hm_1526 hm_1527 hm_1528 hm_1529 hm_1530 hm_1531 hm_1532 hm_1533 hm_1534 hm_1535 hm_1536 hm_1537 hm_1538 hm_1539 hm_1540 hm_1541 hm_1542 hm_1543 hm_1544 hm_1545 fr_1547 fr_1548 fr_1549 fr_1550
  have hF_1587 : ∀ j : Nat, j ≠ 61 → j ≠ 60 → j ≠ 62 → j ≠ 63 → j ≠ 64 → j ≠ 65 → j ≠ 66 → j ≠ 67 → j ≠ 68 → j ≠ 69 → j ≠ 70 → j ≠ 71 → j ≠ 72 → j ≠ 73 → j ≠ 74 → j ≠ 75 → j ≠ 76 → j ≠ 77 → j ≠ 78 → j ≠ 79 → j ≠ 80 → j ≠ 81 → j ≠ 82 → j ≠ 83 → M_1553 j = M j := fun j q0 q1 q2 q3 q4 q5 q6 q7 q8 q9 q10 q11 q12 q13 q14 q15 q16 q17 q18 q19 q20 q21 q22 q23 => by rw [eM_1556, va_up_ne _ _ q23]; exact hF_1551 j q0 q1 q2 q3 q4 q5 q6 q7 q8 q9 q10 q11 q12 q13 q14 q15 q16 q17 q18 q19 q20 q21 q22
  clear hF_1551
  refine n_eqs (show ([.ref (ad_1552 83), .ref (ad_1483 60)] : List Value) = [.ref (ad_1552 83), .ref (ad_1552 60)] from by rw [hAd_1558 60 (by decide)]) ?_
  refine h_putF (C := RX10) (T := TX10) (N := 38) hx hb hts i_RX10 tyX10 tyX10_ok nmX10 hown hI hm_1560 rfl 33 (by decide) f_86 rfl rfl hini rfl rfl rfl (Nat.le_of_ble_eq_true rfl) dX10_init_191 (fun M_1588 H_1589 locs_1590 eM_1591 hI => ?_)
  have hm_1592 : M_1588 60 = some (.inr (11, [.int (nI 0), .ref (ad_1552 61), .ref (ad_1552 62), .ref (ad_1552 63), .ref (ad_1552 64), .ref (ad_1552 65), .ref (ad_1552 66), .ref (ad_1552 67), .ref (ad_1552 68), .ref (ad_1552 69), .ref (ad_1552 70), .int (nI 0), .ref (ad_1552 71), .ref (ad_1552 72), .ref (ad_1552 73), .int (nI 0), .ref (ad_1552 74), .ref (ad_1552 75), .ref (ad_1552 76), .ref (ad_1552 77), .ref (ad_1552 78), .ref (ad_1552 79), .int (nI 0), .int (nI 0), .int (nI 0), .ref (ad_1552 80), .int (nI 0), .int (nI 0), .int (nI 0), .int (nI 0), .int (-1), .ref (ad_1552 81), .ref (ad_1552 82), .ref (ad_1552 83), .null, .null, .null, .null])) := by rw [eM_1591]; exact va_up_self _ _ _
  have hm_1593 : M_1588 61 = some (aI G 36 (nF (fun _ => 0))) := by rw [eM_1591, va_up_ne _ _ (by decide)]; exact hm_1561
  have hm_1594 : M_1588 62 = some (aI G 36 (nF (fun _ => 0))) := by rw [eM_1591, va_up_ne _ _ (by decide)]; exact hm_1562
  have hm_1595 : M_1588 63 = some (aI G 36 (nF (fun _ => 0))) := by rw [eM_1591, va_up_ne _ _ (by decide)]; exact hm_1563
  have hm_1596 : M_1588 64 = some (aZ G 6 (bF (fun _ => false))) := by rw [eM_1591, va_up_ne _ _ (by decide)]; exact hm_1564
  have hm_1597 : M_1588 65 = some (aI G 120 (nF (fun _ => 0))) := by rw [eM_1591, va_up_ne _ _ (by decide)]; exact hm_1565
  have hm_1598 : M_1588 66 = some (aI G 120 (nF (fun _ => 0))) := by rw [eM_1591, va_up_ne _ _ (by decide)]; exact hm_1566
  have hm_1599 : M_1588 67 = some (aI G 120 (nF (fun _ => 0))) := by rw [eM_1591, va_up_ne _ _ (by decide)]; exact hm_1567
  have hm_1600 : M_1588 68 = some (aI G 121 (nF (fun _ => 0))) := by rw [eM_1591, va_up_ne _ _ (by decide)]; exact hm_1568
  have hm_1601 : M_1588 69 = some (aI G 726 (nF (fun _ => 0))) := by rw [eM_1591, va_up_ne _ _ (by decide)]; exact hm_1569
  have hm_1602 : M_1588 70 = some (aI G 726 (nF (fun _ => 0))) := by rw [eM_1591, va_up_ne _ _ (by decide)]; exact hm_1570
  have hm_1603 : M_1588 71 = some (aI G 40 (nF (fun _ => 0))) := by rw [eM_1591, va_up_ne _ _ (by decide)]; exact hm_1571
  have hm_1604 : M_1588 72 = some (aI G 40 (nF (fun _ => 0))) := by rw [eM_1591, va_up_ne _ _ (by decide)]; exact hm_1572
  have hm_1605 : M_1588 73 = some (aI G 40 (nF (fun _ => 0))) := by rw [eM_1591, va_up_ne _ _ (by decide)]; exact hm_1573
  have hm_1606 : M_1588 74 = some (aI G 120 (nF (fun _ => 0))) := by rw [eM_1591, va_up_ne _ _ (by decide)]; exact hm_1574
  have hm_1607 : M_1588 75 = some (aI G 12 (nF (fun _ => 0))) := by rw [eM_1591, va_up_ne _ _ (by decide)]; exact hm_1575
  have hm_1608 : M_1588 76 = some (aZ G 12 (bF (fun _ => false))) := by rw [eM_1591, va_up_ne _ _ (by decide)]; exact hm_1576
  have hm_1609 : M_1588 77 = some (aI G 12 (nF (fun _ => 0))) := by rw [eM_1591, va_up_ne _ _ (by decide)]; exact hm_1577
  have hm_1610 : M_1588 78 = some (aI G 48 (nF (fun _ => 0))) := by rw [eM_1591, va_up_ne _ _ (by decide)]; exact hm_1578
  have hm_1611 : M_1588 79 = some (aI G 48 (nF (fun _ => 0))) := by rw [eM_1591, va_up_ne _ _ (by decide)]; exact hm_1579
  have hm_1612 : M_1588 80 = some (aB G 400 (fun _ => 0)) := by rw [eM_1591, va_up_ne _ _ (by decide)]; exact hm_1580
  have hm_1613 : M_1588 81 = some (aI G 5 (nF (fun _ => 0))) := by rw [eM_1591, va_up_ne _ _ (by decide)]; exact hm_1581
  have hm_1614 : M_1588 82 = some (aZ G 384000 (bF (fun _ => false))) := by rw [eM_1591, va_up_ne _ _ (by decide)]; exact hm_1582
  have hm_1615 : M_1588 83 = some (aI G 3 (nF (fun _ => 0))) := by rw [eM_1591, va_up_ne _ _ (by decide)]; exact hm_1559
  have fr_1616 : M_1588 84 = none := by rw [eM_1591, va_up_ne _ _ (by decide)]; exact fr_1583
  have fr_1617 : M_1588 85 = none := by rw [eM_1591, va_up_ne _ _ (by decide)]; exact fr_1584
  have fr_1618 : M_1588 86 = none := by rw [eM_1591, va_up_ne _ _ (by decide)]; exact fr_1585
  have fr_1619 : M_1588 87 = none := by rw [eM_1591, va_up_ne _ _ (by decide)]; exact fr_1586
  have hF_1620 : ∀ j : Nat, j ≠ 61 → j ≠ 60 → j ≠ 62 → j ≠ 63 → j ≠ 64 → j ≠ 65 → j ≠ 66 → j ≠ 67 → j ≠ 68 → j ≠ 69 → j ≠ 70 → j ≠ 71 → j ≠ 72 → j ≠ 73 → j ≠ 74 → j ≠ 75 → j ≠ 76 → j ≠ 77 → j ≠ 78 → j ≠ 79 → j ≠ 80 → j ≠ 81 → j ≠ 82 → j ≠ 83 → M_1588 j = M j := fun j q0 q1 q2 q3 q4 q5 q6 q7 q8 q9 q10 q11 q12 q13 q14 q15 q16 q17 q18 q19 q20 q21 q22 q23 => by rw [eM_1591, va_up_ne _ _ q1]; exact hF_1587 j q0 q1 q2 q3 q4 q5 q6 q7 q8 q9 q10 q11 q12 q13 q14 q15 q16 q17 q18 q19 q20 q21 q22 q23
  clear hm_1560 hm_1561 hm_1562 hm_1563 hm_1564 hm_1565 hm_1566 hm_1567 hm_1568 hm_1569 hm_1570 hm_1571 hm_1572 hm_1573 hm_1574 hm_1575 hm_1576 hm_1577 hm_1578 hm_1579 hm_1580 hm_1581 hm_1582 hm_1559 fr_1583 fr_1584 fr_1585 fr_1586 hF_1587
  refine lv_aload_n hx hb dX10_init_194 rfl (lv_at hl 0 rfl) ?_
  refine n_eqv (show Value.ref (ad 60) = .ref (ad_1552 60) from by rw [hAd_1558 60 (by decide), hAd_1489 60 (by decide), hAd_1420 60 (by decide), hAd_1318 60 (by decide), hAd_1249 60 (by decide), hAd_1180 60 (by decide), hAd_1111 60 (by decide), hAd_1042 60 (by decide), hAd_973 60 (by decide), hAd_904 60 (by decide), hAd_835 60 (by decide), hAd_766 60 (by decide), hAd_697 60 (by decide), hAd_628 60 (by decide), hAd_559 60 (by decide), hAd_490 60 (by decide), hAd_421 60 (by decide), hAd_352 60 (by decide), hAd_283 60 (by decide), hAd_214 60 (by decide), hAd_145 60 (by decide), hAd_76 60 (by decide), hAd_7 60 (by decide)]) ?_
  refine lv_iconst (v := nI 3) hx hb dX10_init_195 (by decide) ?_
  refine h_newa (atype := .int) (n := 3) (a0 := (3, .inl (nF (fun _ => 0)))) hx hb na_int 0 (ty := .int) rfl rfl (fun C h => by cases h) hI (ha_int 3) (by decide) (by decide) (Nat.le_of_ble_eq_true rfl) (Nat.le_of_ble_eq_true rfl) dX10_init_196 84 fr_1616 (fun ad_1621 M_1622 H_1623 hA_1624 eM_1625 hI => ?_)
  have hAd_1627 : ∀ j : Nat, j ≠ 84 → ad_1621 j = ad_1552 j := fun j hj => by obtain ⟨q, e⟩ := hA_1624; rw [e]; exact va_up_ne _ _ hj
  have hm_1628 : M_1622 84 = some (aI G 3 (nF (fun _ => 0))) := by rw [eM_1625]; exact va_up_self _ _ _
  have hm_1629 : M_1622 60 = some (.inr (11, [.int (nI 0), .ref (ad_1621 61), .ref (ad_1621 62), .ref (ad_1621 63), .ref (ad_1621 64), .ref (ad_1621 65), .ref (ad_1621 66), .ref (ad_1621 67), .ref (ad_1621 68), .ref (ad_1621 69), .ref (ad_1621 70), .int (nI 0), .ref (ad_1621 71), .ref (ad_1621 72), .ref (ad_1621 73), .int (nI 0), .ref (ad_1621 74), .ref (ad_1621 75), .ref (ad_1621 76), .ref (ad_1621 77), .ref (ad_1621 78), .ref (ad_1621 79), .int (nI 0), .int (nI 0), .int (nI 0), .ref (ad_1621 80), .int (nI 0), .int (nI 0), .int (nI 0), .int (nI 0), .int (-1), .ref (ad_1621 81), .ref (ad_1621 82), .ref (ad_1621 83), .null, .null, .null, .null])) := by rw [eM_1625, va_up_ne _ _ (by decide), hm_1592]; rw [hAd_1627 61 (by decide), hAd_1627 62 (by decide), hAd_1627 63 (by decide), hAd_1627 64 (by decide), hAd_1627 65 (by decide), hAd_1627 66 (by decide), hAd_1627 67 (by decide), hAd_1627 68 (by decide), hAd_1627 69 (by decide), hAd_1627 70 (by decide), hAd_1627 71 (by decide), hAd_1627 72 (by decide), hAd_1627 73 (by decide), hAd_1627 74 (by decide), hAd_1627 75 (by decide), hAd_1627 76 (by decide), hAd_1627 77 (by decide), hAd_1627 78 (by decide), hAd_1627 79 (by decide), hAd_1627 80 (by decide), hAd_1627 81 (by decide), hAd_1627 82 (by decide), hAd_1627 83 (by decide)]
  have hm_1630 : M_1622 61 = some (aI G 36 (nF (fun _ => 0))) := by rw [eM_1625, va_up_ne _ _ (by decide), hm_1593]
  have hm_1631 : M_1622 62 = some (aI G 36 (nF (fun _ => 0))) := by rw [eM_1625, va_up_ne _ _ (by decide), hm_1594]
  have hm_1632 : M_1622 63 = some (aI G 36 (nF (fun _ => 0))) := by rw [eM_1625, va_up_ne _ _ (by decide), hm_1595]
  have hm_1633 : M_1622 64 = some (aZ G 6 (bF (fun _ => false))) := by rw [eM_1625, va_up_ne _ _ (by decide), hm_1596]
  have hm_1634 : M_1622 65 = some (aI G 120 (nF (fun _ => 0))) := by rw [eM_1625, va_up_ne _ _ (by decide), hm_1597]
  have hm_1635 : M_1622 66 = some (aI G 120 (nF (fun _ => 0))) := by rw [eM_1625, va_up_ne _ _ (by decide), hm_1598]
  have hm_1636 : M_1622 67 = some (aI G 120 (nF (fun _ => 0))) := by rw [eM_1625, va_up_ne _ _ (by decide), hm_1599]
  have hm_1637 : M_1622 68 = some (aI G 121 (nF (fun _ => 0))) := by rw [eM_1625, va_up_ne _ _ (by decide), hm_1600]
  have hm_1638 : M_1622 69 = some (aI G 726 (nF (fun _ => 0))) := by rw [eM_1625, va_up_ne _ _ (by decide), hm_1601]
  have hm_1639 : M_1622 70 = some (aI G 726 (nF (fun _ => 0))) := by rw [eM_1625, va_up_ne _ _ (by decide), hm_1602]
  have hm_1640 : M_1622 71 = some (aI G 40 (nF (fun _ => 0))) := by rw [eM_1625, va_up_ne _ _ (by decide), hm_1603]
  have hm_1641 : M_1622 72 = some (aI G 40 (nF (fun _ => 0))) := by rw [eM_1625, va_up_ne _ _ (by decide), hm_1604]
  have hm_1642 : M_1622 73 = some (aI G 40 (nF (fun _ => 0))) := by rw [eM_1625, va_up_ne _ _ (by decide), hm_1605]
  have hm_1643 : M_1622 74 = some (aI G 120 (nF (fun _ => 0))) := by rw [eM_1625, va_up_ne _ _ (by decide), hm_1606]
  have hm_1644 : M_1622 75 = some (aI G 12 (nF (fun _ => 0))) := by rw [eM_1625, va_up_ne _ _ (by decide), hm_1607]
  have hm_1645 : M_1622 76 = some (aZ G 12 (bF (fun _ => false))) := by rw [eM_1625, va_up_ne _ _ (by decide), hm_1608]
  have hm_1646 : M_1622 77 = some (aI G 12 (nF (fun _ => 0))) := by rw [eM_1625, va_up_ne _ _ (by decide), hm_1609]
  have hm_1647 : M_1622 78 = some (aI G 48 (nF (fun _ => 0))) := by rw [eM_1625, va_up_ne _ _ (by decide), hm_1610]
  have hm_1648 : M_1622 79 = some (aI G 48 (nF (fun _ => 0))) := by rw [eM_1625, va_up_ne _ _ (by decide), hm_1611]
  have hm_1649 : M_1622 80 = some (aB G 400 (fun _ => 0)) := by rw [eM_1625, va_up_ne _ _ (by decide), hm_1612]
  have hm_1650 : M_1622 81 = some (aI G 5 (nF (fun _ => 0))) := by rw [eM_1625, va_up_ne _ _ (by decide), hm_1613]
  have hm_1651 : M_1622 82 = some (aZ G 384000 (bF (fun _ => false))) := by rw [eM_1625, va_up_ne _ _ (by decide), hm_1614]
  have hm_1652 : M_1622 83 = some (aI G 3 (nF (fun _ => 0))) := by rw [eM_1625, va_up_ne _ _ (by decide), hm_1615]
  have fr_1653 : M_1622 85 = none := by rw [eM_1625, va_up_ne _ _ (by decide)]; exact fr_1617
  have fr_1654 : M_1622 86 = none := by rw [eM_1625, va_up_ne _ _ (by decide)]; exact fr_1618
  have fr_1655 : M_1622 87 = none := by rw [eM_1625, va_up_ne _ _ (by decide)]; exact fr_1619
  clear hm_1592 hm_1593 hm_1594 hm_1595 hm_1596 hm_1597 hm_1598 hm_1599 hm_1600 hm_1601 hm_1602 hm_1603 hm_1604 hm_1605 hm_1606 hm_1607 hm_1608 hm_1609 hm_1610 hm_1611 hm_1612 hm_1613 hm_1614 hm_1615 fr_1617 fr_1618 fr_1619
  have hF_1656 : ∀ j : Nat, j ≠ 61 → j ≠ 60 → j ≠ 62 → j ≠ 63 → j ≠ 64 → j ≠ 65 → j ≠ 66 → j ≠ 67 → j ≠ 68 → j ≠ 69 → j ≠ 70 → j ≠ 71 → j ≠ 72 → j ≠ 73 → j ≠ 74 → j ≠ 75 → j ≠ 76 → j ≠ 77 → j ≠ 78 → j ≠ 79 → j ≠ 80 → j ≠ 81 → j ≠ 82 → j ≠ 83 → j ≠ 84 → M_1622 j = M j := fun j q0 q1 q2 q3 q4 q5 q6 q7 q8 q9 q10 q11 q12 q13 q14 q15 q16 q17 q18 q19 q20 q21 q22 q23 q24 => by rw [eM_1625, va_up_ne _ _ q24]; exact hF_1620 j q0 q1 q2 q3 q4 q5 q6 q7 q8 q9 q10 q11 q12 q13 q14 q15 q16 q17 q18 q19 q20 q21 q22 q23
  clear hF_1620
  refine n_eqs (show ([.ref (ad_1621 84), .ref (ad_1552 60)] : List Value) = [.ref (ad_1621 84), .ref (ad_1621 60)] from by rw [hAd_1627 60 (by decide)]) ?_
  refine h_putF (C := RX10) (T := TX10) (N := 38) hx hb hts i_RX10 tyX10 tyX10_ok nmX10 hown hI hm_1629 rfl 34 (by decide) f_89 rfl rfl hini rfl rfl rfl (Nat.le_of_ble_eq_true rfl) dX10_init_198 (fun M_1657 H_1658 locs_1659 eM_1660 hI => ?_)
  have hm_1661 : M_1657 60 = some (.inr (11, [.int (nI 0), .ref (ad_1621 61), .ref (ad_1621 62), .ref (ad_1621 63), .ref (ad_1621 64), .ref (ad_1621 65), .ref (ad_1621 66), .ref (ad_1621 67), .ref (ad_1621 68), .ref (ad_1621 69), .ref (ad_1621 70), .int (nI 0), .ref (ad_1621 71), .ref (ad_1621 72), .ref (ad_1621 73), .int (nI 0), .ref (ad_1621 74), .ref (ad_1621 75), .ref (ad_1621 76), .ref (ad_1621 77), .ref (ad_1621 78), .ref (ad_1621 79), .int (nI 0), .int (nI 0), .int (nI 0), .ref (ad_1621 80), .int (nI 0), .int (nI 0), .int (nI 0), .int (nI 0), .int (-1), .ref (ad_1621 81), .ref (ad_1621 82), .ref (ad_1621 83), .ref (ad_1621 84), .null, .null, .null])) := by rw [eM_1660]; exact va_up_self _ _ _
  have hm_1662 : M_1657 61 = some (aI G 36 (nF (fun _ => 0))) := by rw [eM_1660, va_up_ne _ _ (by decide)]; exact hm_1630
  have hm_1663 : M_1657 62 = some (aI G 36 (nF (fun _ => 0))) := by rw [eM_1660, va_up_ne _ _ (by decide)]; exact hm_1631
  have hm_1664 : M_1657 63 = some (aI G 36 (nF (fun _ => 0))) := by rw [eM_1660, va_up_ne _ _ (by decide)]; exact hm_1632
  have hm_1665 : M_1657 64 = some (aZ G 6 (bF (fun _ => false))) := by rw [eM_1660, va_up_ne _ _ (by decide)]; exact hm_1633
  have hm_1666 : M_1657 65 = some (aI G 120 (nF (fun _ => 0))) := by rw [eM_1660, va_up_ne _ _ (by decide)]; exact hm_1634
  have hm_1667 : M_1657 66 = some (aI G 120 (nF (fun _ => 0))) := by rw [eM_1660, va_up_ne _ _ (by decide)]; exact hm_1635
  have hm_1668 : M_1657 67 = some (aI G 120 (nF (fun _ => 0))) := by rw [eM_1660, va_up_ne _ _ (by decide)]; exact hm_1636
  have hm_1669 : M_1657 68 = some (aI G 121 (nF (fun _ => 0))) := by rw [eM_1660, va_up_ne _ _ (by decide)]; exact hm_1637
  have hm_1670 : M_1657 69 = some (aI G 726 (nF (fun _ => 0))) := by rw [eM_1660, va_up_ne _ _ (by decide)]; exact hm_1638
  have hm_1671 : M_1657 70 = some (aI G 726 (nF (fun _ => 0))) := by rw [eM_1660, va_up_ne _ _ (by decide)]; exact hm_1639
  have hm_1672 : M_1657 71 = some (aI G 40 (nF (fun _ => 0))) := by rw [eM_1660, va_up_ne _ _ (by decide)]; exact hm_1640
  have hm_1673 : M_1657 72 = some (aI G 40 (nF (fun _ => 0))) := by rw [eM_1660, va_up_ne _ _ (by decide)]; exact hm_1641
  have hm_1674 : M_1657 73 = some (aI G 40 (nF (fun _ => 0))) := by rw [eM_1660, va_up_ne _ _ (by decide)]; exact hm_1642
  have hm_1675 : M_1657 74 = some (aI G 120 (nF (fun _ => 0))) := by rw [eM_1660, va_up_ne _ _ (by decide)]; exact hm_1643
  have hm_1676 : M_1657 75 = some (aI G 12 (nF (fun _ => 0))) := by rw [eM_1660, va_up_ne _ _ (by decide)]; exact hm_1644
  have hm_1677 : M_1657 76 = some (aZ G 12 (bF (fun _ => false))) := by rw [eM_1660, va_up_ne _ _ (by decide)]; exact hm_1645
  have hm_1678 : M_1657 77 = some (aI G 12 (nF (fun _ => 0))) := by rw [eM_1660, va_up_ne _ _ (by decide)]; exact hm_1646
  have hm_1679 : M_1657 78 = some (aI G 48 (nF (fun _ => 0))) := by rw [eM_1660, va_up_ne _ _ (by decide)]; exact hm_1647
  have hm_1680 : M_1657 79 = some (aI G 48 (nF (fun _ => 0))) := by rw [eM_1660, va_up_ne _ _ (by decide)]; exact hm_1648
  have hm_1681 : M_1657 80 = some (aB G 400 (fun _ => 0)) := by rw [eM_1660, va_up_ne _ _ (by decide)]; exact hm_1649
  have hm_1682 : M_1657 81 = some (aI G 5 (nF (fun _ => 0))) := by rw [eM_1660, va_up_ne _ _ (by decide)]; exact hm_1650
  have hm_1683 : M_1657 82 = some (aZ G 384000 (bF (fun _ => false))) := by rw [eM_1660, va_up_ne _ _ (by decide)]; exact hm_1651
  have hm_1684 : M_1657 83 = some (aI G 3 (nF (fun _ => 0))) := by rw [eM_1660, va_up_ne _ _ (by decide)]; exact hm_1652
  have hm_1685 : M_1657 84 = some (aI G 3 (nF (fun _ => 0))) := by rw [eM_1660, va_up_ne _ _ (by decide)]; exact hm_1628
  have fr_1686 : M_1657 85 = none := by rw [eM_1660, va_up_ne _ _ (by decide)]; exact fr_1653
  have fr_1687 : M_1657 86 = none := by rw [eM_1660, va_up_ne _ _ (by decide)]; exact fr_1654
  have fr_1688 : M_1657 87 = none := by rw [eM_1660, va_up_ne _ _ (by decide)]; exact fr_1655
  have hF_1689 : ∀ j : Nat, j ≠ 61 → j ≠ 60 → j ≠ 62 → j ≠ 63 → j ≠ 64 → j ≠ 65 → j ≠ 66 → j ≠ 67 → j ≠ 68 → j ≠ 69 → j ≠ 70 → j ≠ 71 → j ≠ 72 → j ≠ 73 → j ≠ 74 → j ≠ 75 → j ≠ 76 → j ≠ 77 → j ≠ 78 → j ≠ 79 → j ≠ 80 → j ≠ 81 → j ≠ 82 → j ≠ 83 → j ≠ 84 → M_1657 j = M j := fun j q0 q1 q2 q3 q4 q5 q6 q7 q8 q9 q10 q11 q12 q13 q14 q15 q16 q17 q18 q19 q20 q21 q22 q23 q24 => by rw [eM_1660, va_up_ne _ _ q1]; exact hF_1656 j q0 q1 q2 q3 q4 q5 q6 q7 q8 q9 q10 q11 q12 q13 q14 q15 q16 q17 q18 q19 q20 q21 q22 q23 q24
  clear hm_1629 hm_1630 hm_1631 hm_1632 hm_1633 hm_1634 hm_1635 hm_1636 hm_1637 hm_1638 hm_1639 hm_1640 hm_1641 hm_1642 hm_1643 hm_1644 hm_1645 hm_1646 hm_1647 hm_1648 hm_1649 hm_1650 hm_1651 hm_1652 hm_1628 fr_1653 fr_1654 fr_1655 hF_1656
  refine lv_aload_n hx hb dX10_init_201 rfl (lv_at hl 0 rfl) ?_
  refine n_eqv (show Value.ref (ad 60) = .ref (ad_1621 60) from by rw [hAd_1627 60 (by decide), hAd_1558 60 (by decide), hAd_1489 60 (by decide), hAd_1420 60 (by decide), hAd_1318 60 (by decide), hAd_1249 60 (by decide), hAd_1180 60 (by decide), hAd_1111 60 (by decide), hAd_1042 60 (by decide), hAd_973 60 (by decide), hAd_904 60 (by decide), hAd_835 60 (by decide), hAd_766 60 (by decide), hAd_697 60 (by decide), hAd_628 60 (by decide), hAd_559 60 (by decide), hAd_490 60 (by decide), hAd_421 60 (by decide), hAd_352 60 (by decide), hAd_283 60 (by decide), hAd_214 60 (by decide), hAd_145 60 (by decide), hAd_76 60 (by decide), hAd_7 60 (by decide)]) ?_
  refine lv_bipush (v := nI 40) hx hb dX10_init_202 (by decide) ?_
  refine h_newa (atype := .boolean) (n := 40) (a0 := (40, .inl (bF (fun _ => false)))) hx hb na_boolean 1 (ty := .boolean) rfl rfl (fun C h => by cases h) hI (ha_boolean 40) (by decide) (by decide) (Nat.le_of_ble_eq_true rfl) (Nat.le_of_ble_eq_true rfl) dX10_init_204 85 fr_1686 (fun ad_1690 M_1691 H_1692 hA_1693 eM_1694 hI => ?_)
  have hAd_1696 : ∀ j : Nat, j ≠ 85 → ad_1690 j = ad_1621 j := fun j hj => by obtain ⟨q, e⟩ := hA_1693; rw [e]; exact va_up_ne _ _ hj
  have hm_1697 : M_1691 85 = some (aZ G 40 (bF (fun _ => false))) := by rw [eM_1694]; exact va_up_self _ _ _
  have hm_1698 : M_1691 60 = some (.inr (11, [.int (nI 0), .ref (ad_1690 61), .ref (ad_1690 62), .ref (ad_1690 63), .ref (ad_1690 64), .ref (ad_1690 65), .ref (ad_1690 66), .ref (ad_1690 67), .ref (ad_1690 68), .ref (ad_1690 69), .ref (ad_1690 70), .int (nI 0), .ref (ad_1690 71), .ref (ad_1690 72), .ref (ad_1690 73), .int (nI 0), .ref (ad_1690 74), .ref (ad_1690 75), .ref (ad_1690 76), .ref (ad_1690 77), .ref (ad_1690 78), .ref (ad_1690 79), .int (nI 0), .int (nI 0), .int (nI 0), .ref (ad_1690 80), .int (nI 0), .int (nI 0), .int (nI 0), .int (nI 0), .int (-1), .ref (ad_1690 81), .ref (ad_1690 82), .ref (ad_1690 83), .ref (ad_1690 84), .null, .null, .null])) := by rw [eM_1694, va_up_ne _ _ (by decide), hm_1661]; rw [hAd_1696 61 (by decide), hAd_1696 62 (by decide), hAd_1696 63 (by decide), hAd_1696 64 (by decide), hAd_1696 65 (by decide), hAd_1696 66 (by decide), hAd_1696 67 (by decide), hAd_1696 68 (by decide), hAd_1696 69 (by decide), hAd_1696 70 (by decide), hAd_1696 71 (by decide), hAd_1696 72 (by decide), hAd_1696 73 (by decide), hAd_1696 74 (by decide), hAd_1696 75 (by decide), hAd_1696 76 (by decide), hAd_1696 77 (by decide), hAd_1696 78 (by decide), hAd_1696 79 (by decide), hAd_1696 80 (by decide), hAd_1696 81 (by decide), hAd_1696 82 (by decide), hAd_1696 83 (by decide), hAd_1696 84 (by decide)]
  have hm_1699 : M_1691 61 = some (aI G 36 (nF (fun _ => 0))) := by rw [eM_1694, va_up_ne _ _ (by decide), hm_1662]
  have hm_1700 : M_1691 62 = some (aI G 36 (nF (fun _ => 0))) := by rw [eM_1694, va_up_ne _ _ (by decide), hm_1663]
  have hm_1701 : M_1691 63 = some (aI G 36 (nF (fun _ => 0))) := by rw [eM_1694, va_up_ne _ _ (by decide), hm_1664]
  have hm_1702 : M_1691 64 = some (aZ G 6 (bF (fun _ => false))) := by rw [eM_1694, va_up_ne _ _ (by decide), hm_1665]
  have hm_1703 : M_1691 65 = some (aI G 120 (nF (fun _ => 0))) := by rw [eM_1694, va_up_ne _ _ (by decide), hm_1666]
  have hm_1704 : M_1691 66 = some (aI G 120 (nF (fun _ => 0))) := by rw [eM_1694, va_up_ne _ _ (by decide), hm_1667]
  have hm_1705 : M_1691 67 = some (aI G 120 (nF (fun _ => 0))) := by rw [eM_1694, va_up_ne _ _ (by decide), hm_1668]
  have hm_1706 : M_1691 68 = some (aI G 121 (nF (fun _ => 0))) := by rw [eM_1694, va_up_ne _ _ (by decide), hm_1669]
  have hm_1707 : M_1691 69 = some (aI G 726 (nF (fun _ => 0))) := by rw [eM_1694, va_up_ne _ _ (by decide), hm_1670]
  have hm_1708 : M_1691 70 = some (aI G 726 (nF (fun _ => 0))) := by rw [eM_1694, va_up_ne _ _ (by decide), hm_1671]
  have hm_1709 : M_1691 71 = some (aI G 40 (nF (fun _ => 0))) := by rw [eM_1694, va_up_ne _ _ (by decide), hm_1672]
  have hm_1710 : M_1691 72 = some (aI G 40 (nF (fun _ => 0))) := by rw [eM_1694, va_up_ne _ _ (by decide), hm_1673]
  have hm_1711 : M_1691 73 = some (aI G 40 (nF (fun _ => 0))) := by rw [eM_1694, va_up_ne _ _ (by decide), hm_1674]
  have hm_1712 : M_1691 74 = some (aI G 120 (nF (fun _ => 0))) := by rw [eM_1694, va_up_ne _ _ (by decide), hm_1675]
  have hm_1713 : M_1691 75 = some (aI G 12 (nF (fun _ => 0))) := by rw [eM_1694, va_up_ne _ _ (by decide), hm_1676]
  have hm_1714 : M_1691 76 = some (aZ G 12 (bF (fun _ => false))) := by rw [eM_1694, va_up_ne _ _ (by decide), hm_1677]
  have hm_1715 : M_1691 77 = some (aI G 12 (nF (fun _ => 0))) := by rw [eM_1694, va_up_ne _ _ (by decide), hm_1678]
  have hm_1716 : M_1691 78 = some (aI G 48 (nF (fun _ => 0))) := by rw [eM_1694, va_up_ne _ _ (by decide), hm_1679]
  have hm_1717 : M_1691 79 = some (aI G 48 (nF (fun _ => 0))) := by rw [eM_1694, va_up_ne _ _ (by decide), hm_1680]
  have hm_1718 : M_1691 80 = some (aB G 400 (fun _ => 0)) := by rw [eM_1694, va_up_ne _ _ (by decide), hm_1681]
  have hm_1719 : M_1691 81 = some (aI G 5 (nF (fun _ => 0))) := by rw [eM_1694, va_up_ne _ _ (by decide), hm_1682]
  have hm_1720 : M_1691 82 = some (aZ G 384000 (bF (fun _ => false))) := by rw [eM_1694, va_up_ne _ _ (by decide), hm_1683]
  have hm_1721 : M_1691 83 = some (aI G 3 (nF (fun _ => 0))) := by rw [eM_1694, va_up_ne _ _ (by decide), hm_1684]
  have hm_1722 : M_1691 84 = some (aI G 3 (nF (fun _ => 0))) := by rw [eM_1694, va_up_ne _ _ (by decide), hm_1685]
  have fr_1723 : M_1691 86 = none := by rw [eM_1694, va_up_ne _ _ (by decide)]; exact fr_1687
  have fr_1724 : M_1691 87 = none := by rw [eM_1694, va_up_ne _ _ (by decide)]; exact fr_1688
  clear hm_1661 hm_1662 hm_1663 hm_1664 hm_1665 hm_1666 hm_1667 hm_1668 hm_1669 hm_1670 hm_1671 hm_1672 hm_1673 hm_1674 hm_1675 hm_1676 hm_1677 hm_1678 hm_1679 hm_1680 hm_1681 hm_1682 hm_1683 hm_1684 hm_1685 fr_1687 fr_1688
  have hF_1725 : ∀ j : Nat, j ≠ 61 → j ≠ 60 → j ≠ 62 → j ≠ 63 → j ≠ 64 → j ≠ 65 → j ≠ 66 → j ≠ 67 → j ≠ 68 → j ≠ 69 → j ≠ 70 → j ≠ 71 → j ≠ 72 → j ≠ 73 → j ≠ 74 → j ≠ 75 → j ≠ 76 → j ≠ 77 → j ≠ 78 → j ≠ 79 → j ≠ 80 → j ≠ 81 → j ≠ 82 → j ≠ 83 → j ≠ 84 → j ≠ 85 → M_1691 j = M j := fun j q0 q1 q2 q3 q4 q5 q6 q7 q8 q9 q10 q11 q12 q13 q14 q15 q16 q17 q18 q19 q20 q21 q22 q23 q24 q25 => by rw [eM_1694, va_up_ne _ _ q25]; exact hF_1689 j q0 q1 q2 q3 q4 q5 q6 q7 q8 q9 q10 q11 q12 q13 q14 q15 q16 q17 q18 q19 q20 q21 q22 q23 q24
  clear hF_1689
  refine n_eqs (show ([.ref (ad_1690 85), .ref (ad_1621 60)] : List Value) = [.ref (ad_1690 85), .ref (ad_1690 60)] from by rw [hAd_1696 60 (by decide)]) ?_
  refine h_putF (C := RX10) (T := TX10) (N := 38) hx hb hts i_RX10 tyX10 tyX10_ok nmX10 hown hI hm_1698 rfl 35 (by decide) f_92 rfl rfl hini rfl rfl rfl (Nat.le_of_ble_eq_true rfl) dX10_init_206 (fun M_1726 H_1727 locs_1728 eM_1729 hI => ?_)
  have hm_1730 : M_1726 60 = some (.inr (11, [.int (nI 0), .ref (ad_1690 61), .ref (ad_1690 62), .ref (ad_1690 63), .ref (ad_1690 64), .ref (ad_1690 65), .ref (ad_1690 66), .ref (ad_1690 67), .ref (ad_1690 68), .ref (ad_1690 69), .ref (ad_1690 70), .int (nI 0), .ref (ad_1690 71), .ref (ad_1690 72), .ref (ad_1690 73), .int (nI 0), .ref (ad_1690 74), .ref (ad_1690 75), .ref (ad_1690 76), .ref (ad_1690 77), .ref (ad_1690 78), .ref (ad_1690 79), .int (nI 0), .int (nI 0), .int (nI 0), .ref (ad_1690 80), .int (nI 0), .int (nI 0), .int (nI 0), .int (nI 0), .int (-1), .ref (ad_1690 81), .ref (ad_1690 82), .ref (ad_1690 83), .ref (ad_1690 84), .ref (ad_1690 85), .null, .null])) := by rw [eM_1729]; exact va_up_self _ _ _
  have hm_1731 : M_1726 61 = some (aI G 36 (nF (fun _ => 0))) := by rw [eM_1729, va_up_ne _ _ (by decide)]; exact hm_1699
  have hm_1732 : M_1726 62 = some (aI G 36 (nF (fun _ => 0))) := by rw [eM_1729, va_up_ne _ _ (by decide)]; exact hm_1700
  have hm_1733 : M_1726 63 = some (aI G 36 (nF (fun _ => 0))) := by rw [eM_1729, va_up_ne _ _ (by decide)]; exact hm_1701
  have hm_1734 : M_1726 64 = some (aZ G 6 (bF (fun _ => false))) := by rw [eM_1729, va_up_ne _ _ (by decide)]; exact hm_1702
  have hm_1735 : M_1726 65 = some (aI G 120 (nF (fun _ => 0))) := by rw [eM_1729, va_up_ne _ _ (by decide)]; exact hm_1703
  have hm_1736 : M_1726 66 = some (aI G 120 (nF (fun _ => 0))) := by rw [eM_1729, va_up_ne _ _ (by decide)]; exact hm_1704
  have hm_1737 : M_1726 67 = some (aI G 120 (nF (fun _ => 0))) := by rw [eM_1729, va_up_ne _ _ (by decide)]; exact hm_1705
  have hm_1738 : M_1726 68 = some (aI G 121 (nF (fun _ => 0))) := by rw [eM_1729, va_up_ne _ _ (by decide)]; exact hm_1706
  have hm_1739 : M_1726 69 = some (aI G 726 (nF (fun _ => 0))) := by rw [eM_1729, va_up_ne _ _ (by decide)]; exact hm_1707
  have hm_1740 : M_1726 70 = some (aI G 726 (nF (fun _ => 0))) := by rw [eM_1729, va_up_ne _ _ (by decide)]; exact hm_1708
  have hm_1741 : M_1726 71 = some (aI G 40 (nF (fun _ => 0))) := by rw [eM_1729, va_up_ne _ _ (by decide)]; exact hm_1709
  have hm_1742 : M_1726 72 = some (aI G 40 (nF (fun _ => 0))) := by rw [eM_1729, va_up_ne _ _ (by decide)]; exact hm_1710
  have hm_1743 : M_1726 73 = some (aI G 40 (nF (fun _ => 0))) := by rw [eM_1729, va_up_ne _ _ (by decide)]; exact hm_1711
  have hm_1744 : M_1726 74 = some (aI G 120 (nF (fun _ => 0))) := by rw [eM_1729, va_up_ne _ _ (by decide)]; exact hm_1712
  have hm_1745 : M_1726 75 = some (aI G 12 (nF (fun _ => 0))) := by rw [eM_1729, va_up_ne _ _ (by decide)]; exact hm_1713
  have hm_1746 : M_1726 76 = some (aZ G 12 (bF (fun _ => false))) := by rw [eM_1729, va_up_ne _ _ (by decide)]; exact hm_1714
  have hm_1747 : M_1726 77 = some (aI G 12 (nF (fun _ => 0))) := by rw [eM_1729, va_up_ne _ _ (by decide)]; exact hm_1715
  have hm_1748 : M_1726 78 = some (aI G 48 (nF (fun _ => 0))) := by rw [eM_1729, va_up_ne _ _ (by decide)]; exact hm_1716
  have hm_1749 : M_1726 79 = some (aI G 48 (nF (fun _ => 0))) := by rw [eM_1729, va_up_ne _ _ (by decide)]; exact hm_1717
  have hm_1750 : M_1726 80 = some (aB G 400 (fun _ => 0)) := by rw [eM_1729, va_up_ne _ _ (by decide)]; exact hm_1718
  have hm_1751 : M_1726 81 = some (aI G 5 (nF (fun _ => 0))) := by rw [eM_1729, va_up_ne _ _ (by decide)]; exact hm_1719
  have hm_1752 : M_1726 82 = some (aZ G 384000 (bF (fun _ => false))) := by rw [eM_1729, va_up_ne _ _ (by decide)]; exact hm_1720
  have hm_1753 : M_1726 83 = some (aI G 3 (nF (fun _ => 0))) := by rw [eM_1729, va_up_ne _ _ (by decide)]; exact hm_1721
  have hm_1754 : M_1726 84 = some (aI G 3 (nF (fun _ => 0))) := by rw [eM_1729, va_up_ne _ _ (by decide)]; exact hm_1722
  have hm_1755 : M_1726 85 = some (aZ G 40 (bF (fun _ => false))) := by rw [eM_1729, va_up_ne _ _ (by decide)]; exact hm_1697
  have fr_1756 : M_1726 86 = none := by rw [eM_1729, va_up_ne _ _ (by decide)]; exact fr_1723
  have fr_1757 : M_1726 87 = none := by rw [eM_1729, va_up_ne _ _ (by decide)]; exact fr_1724
  have hF_1758 : ∀ j : Nat, j ≠ 61 → j ≠ 60 → j ≠ 62 → j ≠ 63 → j ≠ 64 → j ≠ 65 → j ≠ 66 → j ≠ 67 → j ≠ 68 → j ≠ 69 → j ≠ 70 → j ≠ 71 → j ≠ 72 → j ≠ 73 → j ≠ 74 → j ≠ 75 → j ≠ 76 → j ≠ 77 → j ≠ 78 → j ≠ 79 → j ≠ 80 → j ≠ 81 → j ≠ 82 → j ≠ 83 → j ≠ 84 → j ≠ 85 → M_1726 j = M j := fun j q0 q1 q2 q3 q4 q5 q6 q7 q8 q9 q10 q11 q12 q13 q14 q15 q16 q17 q18 q19 q20 q21 q22 q23 q24 q25 => by rw [eM_1729, va_up_ne _ _ q1]; exact hF_1725 j q0 q1 q2 q3 q4 q5 q6 q7 q8 q9 q10 q11 q12 q13 q14 q15 q16 q17 q18 q19 q20 q21 q22 q23 q24 q25
  clear hm_1698 hm_1699 hm_1700 hm_1701 hm_1702 hm_1703 hm_1704 hm_1705 hm_1706 hm_1707 hm_1708 hm_1709 hm_1710 hm_1711 hm_1712 hm_1713 hm_1714 hm_1715 hm_1716 hm_1717 hm_1718 hm_1719 hm_1720 hm_1721 hm_1722 hm_1697 fr_1723 fr_1724 hF_1725
  refine lv_aload_n hx hb dX10_init_209 rfl (lv_at hl 0 rfl) ?_
  refine n_eqv (show Value.ref (ad 60) = .ref (ad_1690 60) from by rw [hAd_1696 60 (by decide), hAd_1627 60 (by decide), hAd_1558 60 (by decide), hAd_1489 60 (by decide), hAd_1420 60 (by decide), hAd_1318 60 (by decide), hAd_1249 60 (by decide), hAd_1180 60 (by decide), hAd_1111 60 (by decide), hAd_1042 60 (by decide), hAd_973 60 (by decide), hAd_904 60 (by decide), hAd_835 60 (by decide), hAd_766 60 (by decide), hAd_697 60 (by decide), hAd_628 60 (by decide), hAd_559 60 (by decide), hAd_490 60 (by decide), hAd_421 60 (by decide), hAd_352 60 (by decide), hAd_283 60 (by decide), hAd_214 60 (by decide), hAd_145 60 (by decide), hAd_76 60 (by decide), hAd_7 60 (by decide)]) ?_
  refine lv_bipush (v := nI 120) hx hb dX10_init_210 (by decide) ?_
  refine h_newa (atype := .boolean) (n := 120) (a0 := (120, .inl (bF (fun _ => false)))) hx hb na_boolean 1 (ty := .boolean) rfl rfl (fun C h => by cases h) hI (ha_boolean 120) (by decide) (by decide) (Nat.le_of_ble_eq_true rfl) (Nat.le_of_ble_eq_true rfl) dX10_init_212 86 fr_1756 (fun ad_1759 M_1760 H_1761 hA_1762 eM_1763 hI => ?_)
  have hAd_1765 : ∀ j : Nat, j ≠ 86 → ad_1759 j = ad_1690 j := fun j hj => by obtain ⟨q, e⟩ := hA_1762; rw [e]; exact va_up_ne _ _ hj
  have hm_1766 : M_1760 86 = some (aZ G 120 (bF (fun _ => false))) := by rw [eM_1763]; exact va_up_self _ _ _
  have hm_1767 : M_1760 60 = some (.inr (11, [.int (nI 0), .ref (ad_1759 61), .ref (ad_1759 62), .ref (ad_1759 63), .ref (ad_1759 64), .ref (ad_1759 65), .ref (ad_1759 66), .ref (ad_1759 67), .ref (ad_1759 68), .ref (ad_1759 69), .ref (ad_1759 70), .int (nI 0), .ref (ad_1759 71), .ref (ad_1759 72), .ref (ad_1759 73), .int (nI 0), .ref (ad_1759 74), .ref (ad_1759 75), .ref (ad_1759 76), .ref (ad_1759 77), .ref (ad_1759 78), .ref (ad_1759 79), .int (nI 0), .int (nI 0), .int (nI 0), .ref (ad_1759 80), .int (nI 0), .int (nI 0), .int (nI 0), .int (nI 0), .int (-1), .ref (ad_1759 81), .ref (ad_1759 82), .ref (ad_1759 83), .ref (ad_1759 84), .ref (ad_1759 85), .null, .null])) := by rw [eM_1763, va_up_ne _ _ (by decide), hm_1730]; rw [hAd_1765 61 (by decide), hAd_1765 62 (by decide), hAd_1765 63 (by decide), hAd_1765 64 (by decide), hAd_1765 65 (by decide), hAd_1765 66 (by decide), hAd_1765 67 (by decide), hAd_1765 68 (by decide), hAd_1765 69 (by decide), hAd_1765 70 (by decide), hAd_1765 71 (by decide), hAd_1765 72 (by decide), hAd_1765 73 (by decide), hAd_1765 74 (by decide), hAd_1765 75 (by decide), hAd_1765 76 (by decide), hAd_1765 77 (by decide), hAd_1765 78 (by decide), hAd_1765 79 (by decide), hAd_1765 80 (by decide), hAd_1765 81 (by decide), hAd_1765 82 (by decide), hAd_1765 83 (by decide), hAd_1765 84 (by decide), hAd_1765 85 (by decide)]
  have hm_1768 : M_1760 61 = some (aI G 36 (nF (fun _ => 0))) := by rw [eM_1763, va_up_ne _ _ (by decide), hm_1731]
  have hm_1769 : M_1760 62 = some (aI G 36 (nF (fun _ => 0))) := by rw [eM_1763, va_up_ne _ _ (by decide), hm_1732]
  have hm_1770 : M_1760 63 = some (aI G 36 (nF (fun _ => 0))) := by rw [eM_1763, va_up_ne _ _ (by decide), hm_1733]
  have hm_1771 : M_1760 64 = some (aZ G 6 (bF (fun _ => false))) := by rw [eM_1763, va_up_ne _ _ (by decide), hm_1734]
  have hm_1772 : M_1760 65 = some (aI G 120 (nF (fun _ => 0))) := by rw [eM_1763, va_up_ne _ _ (by decide), hm_1735]
  have hm_1773 : M_1760 66 = some (aI G 120 (nF (fun _ => 0))) := by rw [eM_1763, va_up_ne _ _ (by decide), hm_1736]
  have hm_1774 : M_1760 67 = some (aI G 120 (nF (fun _ => 0))) := by rw [eM_1763, va_up_ne _ _ (by decide), hm_1737]
  have hm_1775 : M_1760 68 = some (aI G 121 (nF (fun _ => 0))) := by rw [eM_1763, va_up_ne _ _ (by decide), hm_1738]
  have hm_1776 : M_1760 69 = some (aI G 726 (nF (fun _ => 0))) := by rw [eM_1763, va_up_ne _ _ (by decide), hm_1739]
  have hm_1777 : M_1760 70 = some (aI G 726 (nF (fun _ => 0))) := by rw [eM_1763, va_up_ne _ _ (by decide), hm_1740]
  have hm_1778 : M_1760 71 = some (aI G 40 (nF (fun _ => 0))) := by rw [eM_1763, va_up_ne _ _ (by decide), hm_1741]
  have hm_1779 : M_1760 72 = some (aI G 40 (nF (fun _ => 0))) := by rw [eM_1763, va_up_ne _ _ (by decide), hm_1742]
  have hm_1780 : M_1760 73 = some (aI G 40 (nF (fun _ => 0))) := by rw [eM_1763, va_up_ne _ _ (by decide), hm_1743]
  have hm_1781 : M_1760 74 = some (aI G 120 (nF (fun _ => 0))) := by rw [eM_1763, va_up_ne _ _ (by decide), hm_1744]
  have hm_1782 : M_1760 75 = some (aI G 12 (nF (fun _ => 0))) := by rw [eM_1763, va_up_ne _ _ (by decide), hm_1745]
  have hm_1783 : M_1760 76 = some (aZ G 12 (bF (fun _ => false))) := by rw [eM_1763, va_up_ne _ _ (by decide), hm_1746]
  have hm_1784 : M_1760 77 = some (aI G 12 (nF (fun _ => 0))) := by rw [eM_1763, va_up_ne _ _ (by decide), hm_1747]
  have hm_1785 : M_1760 78 = some (aI G 48 (nF (fun _ => 0))) := by rw [eM_1763, va_up_ne _ _ (by decide), hm_1748]
  have hm_1786 : M_1760 79 = some (aI G 48 (nF (fun _ => 0))) := by rw [eM_1763, va_up_ne _ _ (by decide), hm_1749]
  have hm_1787 : M_1760 80 = some (aB G 400 (fun _ => 0)) := by rw [eM_1763, va_up_ne _ _ (by decide), hm_1750]
  have hm_1788 : M_1760 81 = some (aI G 5 (nF (fun _ => 0))) := by rw [eM_1763, va_up_ne _ _ (by decide), hm_1751]
  have hm_1789 : M_1760 82 = some (aZ G 384000 (bF (fun _ => false))) := by rw [eM_1763, va_up_ne _ _ (by decide), hm_1752]
  have hm_1790 : M_1760 83 = some (aI G 3 (nF (fun _ => 0))) := by rw [eM_1763, va_up_ne _ _ (by decide), hm_1753]
  have hm_1791 : M_1760 84 = some (aI G 3 (nF (fun _ => 0))) := by rw [eM_1763, va_up_ne _ _ (by decide), hm_1754]
  have hm_1792 : M_1760 85 = some (aZ G 40 (bF (fun _ => false))) := by rw [eM_1763, va_up_ne _ _ (by decide), hm_1755]
  have fr_1793 : M_1760 87 = none := by rw [eM_1763, va_up_ne _ _ (by decide)]; exact fr_1757
  clear hm_1730 hm_1731 hm_1732 hm_1733 hm_1734 hm_1735 hm_1736 hm_1737 hm_1738 hm_1739 hm_1740 hm_1741 hm_1742 hm_1743 hm_1744 hm_1745 hm_1746 hm_1747 hm_1748 hm_1749 hm_1750 hm_1751 hm_1752 hm_1753 hm_1754 hm_1755 fr_1757
  have hF_1794 : ∀ j : Nat, j ≠ 61 → j ≠ 60 → j ≠ 62 → j ≠ 63 → j ≠ 64 → j ≠ 65 → j ≠ 66 → j ≠ 67 → j ≠ 68 → j ≠ 69 → j ≠ 70 → j ≠ 71 → j ≠ 72 → j ≠ 73 → j ≠ 74 → j ≠ 75 → j ≠ 76 → j ≠ 77 → j ≠ 78 → j ≠ 79 → j ≠ 80 → j ≠ 81 → j ≠ 82 → j ≠ 83 → j ≠ 84 → j ≠ 85 → j ≠ 86 → M_1760 j = M j := fun j q0 q1 q2 q3 q4 q5 q6 q7 q8 q9 q10 q11 q12 q13 q14 q15 q16 q17 q18 q19 q20 q21 q22 q23 q24 q25 q26 => by rw [eM_1763, va_up_ne _ _ q26]; exact hF_1758 j q0 q1 q2 q3 q4 q5 q6 q7 q8 q9 q10 q11 q12 q13 q14 q15 q16 q17 q18 q19 q20 q21 q22 q23 q24 q25
  clear hF_1758
  refine n_eqs (show ([.ref (ad_1759 86), .ref (ad_1690 60)] : List Value) = [.ref (ad_1759 86), .ref (ad_1759 60)] from by rw [hAd_1765 60 (by decide)]) ?_
  refine h_putF (C := RX10) (T := TX10) (N := 38) hx hb hts i_RX10 tyX10 tyX10_ok nmX10 hown hI hm_1767 rfl 36 (by decide) f_95 rfl rfl hini rfl rfl rfl (Nat.le_of_ble_eq_true rfl) dX10_init_214 (fun M_1795 H_1796 locs_1797 eM_1798 hI => ?_)
  have hm_1799 : M_1795 60 = some (.inr (11, [.int (nI 0), .ref (ad_1759 61), .ref (ad_1759 62), .ref (ad_1759 63), .ref (ad_1759 64), .ref (ad_1759 65), .ref (ad_1759 66), .ref (ad_1759 67), .ref (ad_1759 68), .ref (ad_1759 69), .ref (ad_1759 70), .int (nI 0), .ref (ad_1759 71), .ref (ad_1759 72), .ref (ad_1759 73), .int (nI 0), .ref (ad_1759 74), .ref (ad_1759 75), .ref (ad_1759 76), .ref (ad_1759 77), .ref (ad_1759 78), .ref (ad_1759 79), .int (nI 0), .int (nI 0), .int (nI 0), .ref (ad_1759 80), .int (nI 0), .int (nI 0), .int (nI 0), .int (nI 0), .int (-1), .ref (ad_1759 81), .ref (ad_1759 82), .ref (ad_1759 83), .ref (ad_1759 84), .ref (ad_1759 85), .ref (ad_1759 86), .null])) := by rw [eM_1798]; exact va_up_self _ _ _
  have hm_1800 : M_1795 61 = some (aI G 36 (nF (fun _ => 0))) := by rw [eM_1798, va_up_ne _ _ (by decide)]; exact hm_1768
  have hm_1801 : M_1795 62 = some (aI G 36 (nF (fun _ => 0))) := by rw [eM_1798, va_up_ne _ _ (by decide)]; exact hm_1769
  have hm_1802 : M_1795 63 = some (aI G 36 (nF (fun _ => 0))) := by rw [eM_1798, va_up_ne _ _ (by decide)]; exact hm_1770
  have hm_1803 : M_1795 64 = some (aZ G 6 (bF (fun _ => false))) := by rw [eM_1798, va_up_ne _ _ (by decide)]; exact hm_1771
  have hm_1804 : M_1795 65 = some (aI G 120 (nF (fun _ => 0))) := by rw [eM_1798, va_up_ne _ _ (by decide)]; exact hm_1772
  have hm_1805 : M_1795 66 = some (aI G 120 (nF (fun _ => 0))) := by rw [eM_1798, va_up_ne _ _ (by decide)]; exact hm_1773
  have hm_1806 : M_1795 67 = some (aI G 120 (nF (fun _ => 0))) := by rw [eM_1798, va_up_ne _ _ (by decide)]; exact hm_1774
  have hm_1807 : M_1795 68 = some (aI G 121 (nF (fun _ => 0))) := by rw [eM_1798, va_up_ne _ _ (by decide)]; exact hm_1775
  have hm_1808 : M_1795 69 = some (aI G 726 (nF (fun _ => 0))) := by rw [eM_1798, va_up_ne _ _ (by decide)]; exact hm_1776
  have hm_1809 : M_1795 70 = some (aI G 726 (nF (fun _ => 0))) := by rw [eM_1798, va_up_ne _ _ (by decide)]; exact hm_1777
  have hm_1810 : M_1795 71 = some (aI G 40 (nF (fun _ => 0))) := by rw [eM_1798, va_up_ne _ _ (by decide)]; exact hm_1778
  have hm_1811 : M_1795 72 = some (aI G 40 (nF (fun _ => 0))) := by rw [eM_1798, va_up_ne _ _ (by decide)]; exact hm_1779
  have hm_1812 : M_1795 73 = some (aI G 40 (nF (fun _ => 0))) := by rw [eM_1798, va_up_ne _ _ (by decide)]; exact hm_1780
  have hm_1813 : M_1795 74 = some (aI G 120 (nF (fun _ => 0))) := by rw [eM_1798, va_up_ne _ _ (by decide)]; exact hm_1781
  have hm_1814 : M_1795 75 = some (aI G 12 (nF (fun _ => 0))) := by rw [eM_1798, va_up_ne _ _ (by decide)]; exact hm_1782
  have hm_1815 : M_1795 76 = some (aZ G 12 (bF (fun _ => false))) := by rw [eM_1798, va_up_ne _ _ (by decide)]; exact hm_1783
  have hm_1816 : M_1795 77 = some (aI G 12 (nF (fun _ => 0))) := by rw [eM_1798, va_up_ne _ _ (by decide)]; exact hm_1784
  have hm_1817 : M_1795 78 = some (aI G 48 (nF (fun _ => 0))) := by rw [eM_1798, va_up_ne _ _ (by decide)]; exact hm_1785
  have hm_1818 : M_1795 79 = some (aI G 48 (nF (fun _ => 0))) := by rw [eM_1798, va_up_ne _ _ (by decide)]; exact hm_1786
  have hm_1819 : M_1795 80 = some (aB G 400 (fun _ => 0)) := by rw [eM_1798, va_up_ne _ _ (by decide)]; exact hm_1787
  have hm_1820 : M_1795 81 = some (aI G 5 (nF (fun _ => 0))) := by rw [eM_1798, va_up_ne _ _ (by decide)]; exact hm_1788
  have hm_1821 : M_1795 82 = some (aZ G 384000 (bF (fun _ => false))) := by rw [eM_1798, va_up_ne _ _ (by decide)]; exact hm_1789
  have hm_1822 : M_1795 83 = some (aI G 3 (nF (fun _ => 0))) := by rw [eM_1798, va_up_ne _ _ (by decide)]; exact hm_1790
  have hm_1823 : M_1795 84 = some (aI G 3 (nF (fun _ => 0))) := by rw [eM_1798, va_up_ne _ _ (by decide)]; exact hm_1791
  have hm_1824 : M_1795 85 = some (aZ G 40 (bF (fun _ => false))) := by rw [eM_1798, va_up_ne _ _ (by decide)]; exact hm_1792
  have hm_1825 : M_1795 86 = some (aZ G 120 (bF (fun _ => false))) := by rw [eM_1798, va_up_ne _ _ (by decide)]; exact hm_1766
  have fr_1826 : M_1795 87 = none := by rw [eM_1798, va_up_ne _ _ (by decide)]; exact fr_1793
  have hF_1827 : ∀ j : Nat, j ≠ 61 → j ≠ 60 → j ≠ 62 → j ≠ 63 → j ≠ 64 → j ≠ 65 → j ≠ 66 → j ≠ 67 → j ≠ 68 → j ≠ 69 → j ≠ 70 → j ≠ 71 → j ≠ 72 → j ≠ 73 → j ≠ 74 → j ≠ 75 → j ≠ 76 → j ≠ 77 → j ≠ 78 → j ≠ 79 → j ≠ 80 → j ≠ 81 → j ≠ 82 → j ≠ 83 → j ≠ 84 → j ≠ 85 → j ≠ 86 → M_1795 j = M j := fun j q0 q1 q2 q3 q4 q5 q6 q7 q8 q9 q10 q11 q12 q13 q14 q15 q16 q17 q18 q19 q20 q21 q22 q23 q24 q25 q26 => by rw [eM_1798, va_up_ne _ _ q1]; exact hF_1794 j q0 q1 q2 q3 q4 q5 q6 q7 q8 q9 q10 q11 q12 q13 q14 q15 q16 q17 q18 q19 q20 q21 q22 q23 q24 q25 q26
  clear hm_1767 hm_1768 hm_1769 hm_1770 hm_1771 hm_1772 hm_1773 hm_1774 hm_1775 hm_1776 hm_1777 hm_1778 hm_1779 hm_1780 hm_1781 hm_1782 hm_1783 hm_1784 hm_1785 hm_1786 hm_1787 hm_1788 hm_1789 hm_1790 hm_1791 hm_1792 hm_1766 fr_1793 hF_1794
  refine lv_aload_n hx hb dX10_init_217 rfl (lv_at hl 0 rfl) ?_
  refine n_eqv (show Value.ref (ad 60) = .ref (ad_1759 60) from by rw [hAd_1765 60 (by decide), hAd_1696 60 (by decide), hAd_1627 60 (by decide), hAd_1558 60 (by decide), hAd_1489 60 (by decide), hAd_1420 60 (by decide), hAd_1318 60 (by decide), hAd_1249 60 (by decide), hAd_1180 60 (by decide), hAd_1111 60 (by decide), hAd_1042 60 (by decide), hAd_973 60 (by decide), hAd_904 60 (by decide), hAd_835 60 (by decide), hAd_766 60 (by decide), hAd_697 60 (by decide), hAd_628 60 (by decide), hAd_559 60 (by decide), hAd_490 60 (by decide), hAd_421 60 (by decide), hAd_352 60 (by decide), hAd_283 60 (by decide), hAd_214 60 (by decide), hAd_145 60 (by decide), hAd_76 60 (by decide), hAd_7 60 (by decide)]) ?_
  refine lv_bipush (v := nI 120) hx hb dX10_init_218 (by decide) ?_
  refine h_newa (atype := .boolean) (n := 120) (a0 := (120, .inl (bF (fun _ => false)))) hx hb na_boolean 1 (ty := .boolean) rfl rfl (fun C h => by cases h) hI (ha_boolean 120) (by decide) (by decide) (Nat.le_of_ble_eq_true rfl) (Nat.le_of_ble_eq_true rfl) dX10_init_220 87 fr_1826 (fun ad_1828 M_1829 H_1830 hA_1831 eM_1832 hI => ?_)
  have hAd_1834 : ∀ j : Nat, j ≠ 87 → ad_1828 j = ad_1759 j := fun j hj => by obtain ⟨q, e⟩ := hA_1831; rw [e]; exact va_up_ne _ _ hj
  have hm_1835 : M_1829 87 = some (aZ G 120 (bF (fun _ => false))) := by rw [eM_1832]; exact va_up_self _ _ _
  have hm_1836 : M_1829 60 = some (.inr (11, [.int (nI 0), .ref (ad_1828 61), .ref (ad_1828 62), .ref (ad_1828 63), .ref (ad_1828 64), .ref (ad_1828 65), .ref (ad_1828 66), .ref (ad_1828 67), .ref (ad_1828 68), .ref (ad_1828 69), .ref (ad_1828 70), .int (nI 0), .ref (ad_1828 71), .ref (ad_1828 72), .ref (ad_1828 73), .int (nI 0), .ref (ad_1828 74), .ref (ad_1828 75), .ref (ad_1828 76), .ref (ad_1828 77), .ref (ad_1828 78), .ref (ad_1828 79), .int (nI 0), .int (nI 0), .int (nI 0), .ref (ad_1828 80), .int (nI 0), .int (nI 0), .int (nI 0), .int (nI 0), .int (-1), .ref (ad_1828 81), .ref (ad_1828 82), .ref (ad_1828 83), .ref (ad_1828 84), .ref (ad_1828 85), .ref (ad_1828 86), .null])) := by rw [eM_1832, va_up_ne _ _ (by decide), hm_1799]; rw [hAd_1834 61 (by decide), hAd_1834 62 (by decide), hAd_1834 63 (by decide), hAd_1834 64 (by decide), hAd_1834 65 (by decide), hAd_1834 66 (by decide), hAd_1834 67 (by decide), hAd_1834 68 (by decide), hAd_1834 69 (by decide), hAd_1834 70 (by decide), hAd_1834 71 (by decide), hAd_1834 72 (by decide), hAd_1834 73 (by decide), hAd_1834 74 (by decide), hAd_1834 75 (by decide), hAd_1834 76 (by decide), hAd_1834 77 (by decide), hAd_1834 78 (by decide), hAd_1834 79 (by decide), hAd_1834 80 (by decide), hAd_1834 81 (by decide), hAd_1834 82 (by decide), hAd_1834 83 (by decide), hAd_1834 84 (by decide), hAd_1834 85 (by decide), hAd_1834 86 (by decide)]
  have hm_1837 : M_1829 61 = some (aI G 36 (nF (fun _ => 0))) := by rw [eM_1832, va_up_ne _ _ (by decide), hm_1800]
  have hm_1838 : M_1829 62 = some (aI G 36 (nF (fun _ => 0))) := by rw [eM_1832, va_up_ne _ _ (by decide), hm_1801]
  have hm_1839 : M_1829 63 = some (aI G 36 (nF (fun _ => 0))) := by rw [eM_1832, va_up_ne _ _ (by decide), hm_1802]
  have hm_1840 : M_1829 64 = some (aZ G 6 (bF (fun _ => false))) := by rw [eM_1832, va_up_ne _ _ (by decide), hm_1803]
  have hm_1841 : M_1829 65 = some (aI G 120 (nF (fun _ => 0))) := by rw [eM_1832, va_up_ne _ _ (by decide), hm_1804]
  have hm_1842 : M_1829 66 = some (aI G 120 (nF (fun _ => 0))) := by rw [eM_1832, va_up_ne _ _ (by decide), hm_1805]
  have hm_1843 : M_1829 67 = some (aI G 120 (nF (fun _ => 0))) := by rw [eM_1832, va_up_ne _ _ (by decide), hm_1806]
  have hm_1844 : M_1829 68 = some (aI G 121 (nF (fun _ => 0))) := by rw [eM_1832, va_up_ne _ _ (by decide), hm_1807]
  have hm_1845 : M_1829 69 = some (aI G 726 (nF (fun _ => 0))) := by rw [eM_1832, va_up_ne _ _ (by decide), hm_1808]
  have hm_1846 : M_1829 70 = some (aI G 726 (nF (fun _ => 0))) := by rw [eM_1832, va_up_ne _ _ (by decide), hm_1809]
  have hm_1847 : M_1829 71 = some (aI G 40 (nF (fun _ => 0))) := by rw [eM_1832, va_up_ne _ _ (by decide), hm_1810]
  have hm_1848 : M_1829 72 = some (aI G 40 (nF (fun _ => 0))) := by rw [eM_1832, va_up_ne _ _ (by decide), hm_1811]
  have hm_1849 : M_1829 73 = some (aI G 40 (nF (fun _ => 0))) := by rw [eM_1832, va_up_ne _ _ (by decide), hm_1812]
  have hm_1850 : M_1829 74 = some (aI G 120 (nF (fun _ => 0))) := by rw [eM_1832, va_up_ne _ _ (by decide), hm_1813]
  have hm_1851 : M_1829 75 = some (aI G 12 (nF (fun _ => 0))) := by rw [eM_1832, va_up_ne _ _ (by decide), hm_1814]
  have hm_1852 : M_1829 76 = some (aZ G 12 (bF (fun _ => false))) := by rw [eM_1832, va_up_ne _ _ (by decide), hm_1815]
  have hm_1853 : M_1829 77 = some (aI G 12 (nF (fun _ => 0))) := by rw [eM_1832, va_up_ne _ _ (by decide), hm_1816]
  have hm_1854 : M_1829 78 = some (aI G 48 (nF (fun _ => 0))) := by rw [eM_1832, va_up_ne _ _ (by decide), hm_1817]
  have hm_1855 : M_1829 79 = some (aI G 48 (nF (fun _ => 0))) := by rw [eM_1832, va_up_ne _ _ (by decide), hm_1818]
  have hm_1856 : M_1829 80 = some (aB G 400 (fun _ => 0)) := by rw [eM_1832, va_up_ne _ _ (by decide), hm_1819]
  have hm_1857 : M_1829 81 = some (aI G 5 (nF (fun _ => 0))) := by rw [eM_1832, va_up_ne _ _ (by decide), hm_1820]
  have hm_1858 : M_1829 82 = some (aZ G 384000 (bF (fun _ => false))) := by rw [eM_1832, va_up_ne _ _ (by decide), hm_1821]
  have hm_1859 : M_1829 83 = some (aI G 3 (nF (fun _ => 0))) := by rw [eM_1832, va_up_ne _ _ (by decide), hm_1822]
  have hm_1860 : M_1829 84 = some (aI G 3 (nF (fun _ => 0))) := by rw [eM_1832, va_up_ne _ _ (by decide), hm_1823]
  have hm_1861 : M_1829 85 = some (aZ G 40 (bF (fun _ => false))) := by rw [eM_1832, va_up_ne _ _ (by decide), hm_1824]
  have hm_1862 : M_1829 86 = some (aZ G 120 (bF (fun _ => false))) := by rw [eM_1832, va_up_ne _ _ (by decide), hm_1825]
  clear hm_1799 hm_1800 hm_1801 hm_1802 hm_1803 hm_1804 hm_1805 hm_1806 hm_1807 hm_1808 hm_1809 hm_1810 hm_1811 hm_1812 hm_1813 hm_1814 hm_1815 hm_1816 hm_1817 hm_1818 hm_1819 hm_1820 hm_1821 hm_1822 hm_1823 hm_1824 hm_1825
  have hF_1863 : ∀ j : Nat, j ≠ 61 → j ≠ 60 → j ≠ 62 → j ≠ 63 → j ≠ 64 → j ≠ 65 → j ≠ 66 → j ≠ 67 → j ≠ 68 → j ≠ 69 → j ≠ 70 → j ≠ 71 → j ≠ 72 → j ≠ 73 → j ≠ 74 → j ≠ 75 → j ≠ 76 → j ≠ 77 → j ≠ 78 → j ≠ 79 → j ≠ 80 → j ≠ 81 → j ≠ 82 → j ≠ 83 → j ≠ 84 → j ≠ 85 → j ≠ 86 → j ≠ 87 → M_1829 j = M j := fun j q0 q1 q2 q3 q4 q5 q6 q7 q8 q9 q10 q11 q12 q13 q14 q15 q16 q17 q18 q19 q20 q21 q22 q23 q24 q25 q26 q27 => by rw [eM_1832, va_up_ne _ _ q27]; exact hF_1827 j q0 q1 q2 q3 q4 q5 q6 q7 q8 q9 q10 q11 q12 q13 q14 q15 q16 q17 q18 q19 q20 q21 q22 q23 q24 q25 q26
  clear hF_1827
  refine n_eqs (show ([.ref (ad_1828 87), .ref (ad_1759 60)] : List Value) = [.ref (ad_1828 87), .ref (ad_1828 60)] from by rw [hAd_1834 60 (by decide)]) ?_
  refine h_putF (C := RX10) (T := TX10) (N := 38) hx hb hts i_RX10 tyX10 tyX10_ok nmX10 hown hI hm_1836 rfl 37 (by decide) f_98 rfl rfl hini rfl rfl rfl (Nat.le_of_ble_eq_true rfl) dX10_init_222 (fun M_1864 H_1865 locs_1866 eM_1867 hI => ?_)
  have hm_1868 : M_1864 60 = some (.inr (11, [.int (nI 0), .ref (ad_1828 61), .ref (ad_1828 62), .ref (ad_1828 63), .ref (ad_1828 64), .ref (ad_1828 65), .ref (ad_1828 66), .ref (ad_1828 67), .ref (ad_1828 68), .ref (ad_1828 69), .ref (ad_1828 70), .int (nI 0), .ref (ad_1828 71), .ref (ad_1828 72), .ref (ad_1828 73), .int (nI 0), .ref (ad_1828 74), .ref (ad_1828 75), .ref (ad_1828 76), .ref (ad_1828 77), .ref (ad_1828 78), .ref (ad_1828 79), .int (nI 0), .int (nI 0), .int (nI 0), .ref (ad_1828 80), .int (nI 0), .int (nI 0), .int (nI 0), .int (nI 0), .int (-1), .ref (ad_1828 81), .ref (ad_1828 82), .ref (ad_1828 83), .ref (ad_1828 84), .ref (ad_1828 85), .ref (ad_1828 86), .ref (ad_1828 87)])) := by rw [eM_1867]; exact va_up_self _ _ _
  have hm_1869 : M_1864 61 = some (aI G 36 (nF (fun _ => 0))) := by rw [eM_1867, va_up_ne _ _ (by decide)]; exact hm_1837
  have hm_1870 : M_1864 62 = some (aI G 36 (nF (fun _ => 0))) := by rw [eM_1867, va_up_ne _ _ (by decide)]; exact hm_1838
  have hm_1871 : M_1864 63 = some (aI G 36 (nF (fun _ => 0))) := by rw [eM_1867, va_up_ne _ _ (by decide)]; exact hm_1839
  have hm_1872 : M_1864 64 = some (aZ G 6 (bF (fun _ => false))) := by rw [eM_1867, va_up_ne _ _ (by decide)]; exact hm_1840
  have hm_1873 : M_1864 65 = some (aI G 120 (nF (fun _ => 0))) := by rw [eM_1867, va_up_ne _ _ (by decide)]; exact hm_1841
  have hm_1874 : M_1864 66 = some (aI G 120 (nF (fun _ => 0))) := by rw [eM_1867, va_up_ne _ _ (by decide)]; exact hm_1842
  have hm_1875 : M_1864 67 = some (aI G 120 (nF (fun _ => 0))) := by rw [eM_1867, va_up_ne _ _ (by decide)]; exact hm_1843
  have hm_1876 : M_1864 68 = some (aI G 121 (nF (fun _ => 0))) := by rw [eM_1867, va_up_ne _ _ (by decide)]; exact hm_1844
  have hm_1877 : M_1864 69 = some (aI G 726 (nF (fun _ => 0))) := by rw [eM_1867, va_up_ne _ _ (by decide)]; exact hm_1845
  have hm_1878 : M_1864 70 = some (aI G 726 (nF (fun _ => 0))) := by rw [eM_1867, va_up_ne _ _ (by decide)]; exact hm_1846
  have hm_1879 : M_1864 71 = some (aI G 40 (nF (fun _ => 0))) := by rw [eM_1867, va_up_ne _ _ (by decide)]; exact hm_1847
  have hm_1880 : M_1864 72 = some (aI G 40 (nF (fun _ => 0))) := by rw [eM_1867, va_up_ne _ _ (by decide)]; exact hm_1848
  have hm_1881 : M_1864 73 = some (aI G 40 (nF (fun _ => 0))) := by rw [eM_1867, va_up_ne _ _ (by decide)]; exact hm_1849
  have hm_1882 : M_1864 74 = some (aI G 120 (nF (fun _ => 0))) := by rw [eM_1867, va_up_ne _ _ (by decide)]; exact hm_1850
  have hm_1883 : M_1864 75 = some (aI G 12 (nF (fun _ => 0))) := by rw [eM_1867, va_up_ne _ _ (by decide)]; exact hm_1851
  have hm_1884 : M_1864 76 = some (aZ G 12 (bF (fun _ => false))) := by rw [eM_1867, va_up_ne _ _ (by decide)]; exact hm_1852
  have hm_1885 : M_1864 77 = some (aI G 12 (nF (fun _ => 0))) := by rw [eM_1867, va_up_ne _ _ (by decide)]; exact hm_1853
  have hm_1886 : M_1864 78 = some (aI G 48 (nF (fun _ => 0))) := by rw [eM_1867, va_up_ne _ _ (by decide)]; exact hm_1854
  have hm_1887 : M_1864 79 = some (aI G 48 (nF (fun _ => 0))) := by rw [eM_1867, va_up_ne _ _ (by decide)]; exact hm_1855
  have hm_1888 : M_1864 80 = some (aB G 400 (fun _ => 0)) := by rw [eM_1867, va_up_ne _ _ (by decide)]; exact hm_1856
  have hm_1889 : M_1864 81 = some (aI G 5 (nF (fun _ => 0))) := by rw [eM_1867, va_up_ne _ _ (by decide)]; exact hm_1857
  have hm_1890 : M_1864 82 = some (aZ G 384000 (bF (fun _ => false))) := by rw [eM_1867, va_up_ne _ _ (by decide)]; exact hm_1858
  have hm_1891 : M_1864 83 = some (aI G 3 (nF (fun _ => 0))) := by rw [eM_1867, va_up_ne _ _ (by decide)]; exact hm_1859
  have hm_1892 : M_1864 84 = some (aI G 3 (nF (fun _ => 0))) := by rw [eM_1867, va_up_ne _ _ (by decide)]; exact hm_1860
  have hm_1893 : M_1864 85 = some (aZ G 40 (bF (fun _ => false))) := by rw [eM_1867, va_up_ne _ _ (by decide)]; exact hm_1861
  have hm_1894 : M_1864 86 = some (aZ G 120 (bF (fun _ => false))) := by rw [eM_1867, va_up_ne _ _ (by decide)]; exact hm_1862
  have hm_1895 : M_1864 87 = some (aZ G 120 (bF (fun _ => false))) := by rw [eM_1867, va_up_ne _ _ (by decide)]; exact hm_1835
  have hF_1896 : ∀ j : Nat, j ≠ 61 → j ≠ 60 → j ≠ 62 → j ≠ 63 → j ≠ 64 → j ≠ 65 → j ≠ 66 → j ≠ 67 → j ≠ 68 → j ≠ 69 → j ≠ 70 → j ≠ 71 → j ≠ 72 → j ≠ 73 → j ≠ 74 → j ≠ 75 → j ≠ 76 → j ≠ 77 → j ≠ 78 → j ≠ 79 → j ≠ 80 → j ≠ 81 → j ≠ 82 → j ≠ 83 → j ≠ 84 → j ≠ 85 → j ≠ 86 → j ≠ 87 → M_1864 j = M j := fun j q0 q1 q2 q3 q4 q5 q6 q7 q8 q9 q10 q11 q12 q13 q14 q15 q16 q17 q18 q19 q20 q21 q22 q23 q24 q25 q26 q27 => by rw [eM_1867, va_up_ne _ _ q1]; exact hF_1863 j q0 q1 q2 q3 q4 q5 q6 q7 q8 q9 q10 q11 q12 q13 q14 q15 q16 q17 q18 q19 q20 q21 q22 q23 q24 q25 q26 q27
  clear hm_1836 hm_1837 hm_1838 hm_1839 hm_1840 hm_1841 hm_1842 hm_1843 hm_1844 hm_1845 hm_1846 hm_1847 hm_1848 hm_1849 hm_1850 hm_1851 hm_1852 hm_1853 hm_1854 hm_1855 hm_1856 hm_1857 hm_1858 hm_1859 hm_1860 hm_1861 hm_1862 hm_1835 hF_1863
  refine lv_iconst (v := nI 0) hx hb dX10_init_225 (by decide) ?_
  refine lv_istore_n (lv' := [(1, .int (nI 0)), (0, .ref (ad 60))]) hx hb dX10_init_226 rfl hl (by decide) rfl (fun ls hl => ?_)
  have lp227_1897 : ∀ (fuel : Nat) (i : Nat) (g : Nat → Nat) (Mx : Mem) (Hx : Heap) (locsx : List Loc) (ls : Array Slot), (36 - i) < fuel → (i ≤ 36) → (∀ j, j < i → g j = 6) → Iv G z ad_1828 Mx s Hx locsx → Mx 60 = some (cModel ad_1828 0 0 0 0 0 0 0 0 0 0 (-1)) → Mx 61 = some (aI G 36 (nF (fun _ => 0))) → Mx 62 = some (aI G 36 (nF g)) → Mx 63 = some (aI G 36 (nF (fun _ => 0))) → Mx 64 = some (aZ G 6 (bF (fun _ => false))) → Mx 65 = some (aI G 120 (nF (fun _ => 0))) → Mx 66 = some (aI G 120 (nF (fun _ => 0))) → Mx 67 = some (aI G 120 (nF (fun _ => 0))) → Mx 68 = some (aI G 121 (nF (fun _ => 0))) → Mx 69 = some (aI G 726 (nF (fun _ => 0))) → Mx 70 = some (aI G 726 (nF (fun _ => 0))) → Mx 71 = some (aI G 40 (nF (fun _ => 0))) → Mx 72 = some (aI G 40 (nF (fun _ => 0))) → Mx 73 = some (aI G 40 (nF (fun _ => 0))) → Mx 74 = some (aI G 120 (nF (fun _ => 0))) → Mx 75 = some (aI G 12 (nF (fun _ => 0))) → Mx 76 = some (aZ G 12 (bF (fun _ => false))) → Mx 77 = some (aI G 12 (nF (fun _ => 0))) → Mx 78 = some (aI G 48 (nF (fun _ => 0))) → Mx 79 = some (aI G 48 (nF (fun _ => 0))) → Mx 80 = some (aB G 400 (fun _ => 0)) → Mx 81 = some (aI G 5 (nF (fun _ => 0))) → Mx 82 = some (aZ G 384000 (bF (fun _ => false))) → Mx 83 = some (aI G 3 (nF (fun _ => 0))) → Mx 84 = some (aI G 3 (nF (fun _ => 0))) → Mx 85 = some (aZ G 40 (bF (fun _ => false))) → Mx 86 = some (aZ G 120 (bF (fun _ => false))) → Mx 87 = some (aZ G 120 (bF (fun _ => false))) → (∀ j : Nat, j ≠ 60 → j ≠ 61 → j ≠ 62 → j ≠ 63 → j ≠ 64 → j ≠ 65 → j ≠ 66 → j ≠ 67 → j ≠ 68 → j ≠ 69 → j ≠ 70 → j ≠ 71 → j ≠ 72 → j ≠ 73 → j ≠ 74 → j ≠ 75 → j ≠ 76 → j ≠ 77 → j ≠ 78 → j ≠ 79 → j ≠ 80 → j ≠ 81 → j ≠ 82 → j ≠ 83 → j ≠ 84 → j ≠ 85 → j ≠ 86 → j ≠ 87 → Mx j = M j) → lv_has ls 2 [(0, .ref (ad 60)), (1, .int (nI i))] → W p l e (headSpec wsX10_init rm_c_X10_init).room s m ([.ref (ad 60)] : List Value).toArray below meth c Hx locsx 27 387110 Q (F0 m 227 ls []) := by
    intro fuel
    induction fuel with
    | zero => intro i g Mx Hx locsx ls hfu hi hg hI hm_1898 hm_1899 hm_1900 hm_1901 hm_1902 hm_1903 hm_1904 hm_1905 hm_1906 hm_1907 hm_1908 hm_1909 hm_1910 hm_1911 hm_1912 hm_1913 hm_1914 hm_1915 hm_1916 hm_1917 hm_1918 hm_1919 hm_1920 hm_1921 hm_1922 hm_1923 hm_1924 hm_1925 hF_1927 hl; exact absurd hfu (Nat.not_lt_zero _)
    | succ fuel ih_1928 =>
      intro i g Mx Hx locsx ls hfu hi hg hI hm_1898 hm_1899 hm_1900 hm_1901 hm_1902 hm_1903 hm_1904 hm_1905 hm_1906 hm_1907 hm_1908 hm_1909 hm_1910 hm_1911 hm_1912 hm_1913 hm_1914 hm_1915 hm_1916 hm_1917 hm_1918 hm_1919 hm_1920 hm_1921 hm_1922 hm_1923 hm_1924 hm_1925 hF_1927 hl
      refine lv_iload_n hx hb dX10_init_227 rfl (lv_at hl 1 rfl) ?_
      refine lv_bipush (v := nI 36) hx hb dX10_init_228 (by decide) ?_
      refine lv_icmp_ge (tgt := 247) hx hb dX10_init_230 (by decide) (fun c_1929 => ?_) (fun c_1929 => ?_)
      · -- 230: nI i ge
        have c_1929 : 36 ≤ i := (nI_leI (a := 36) (b := i) (by omega) (by omega)).mp (c_1929)
        refine lv_iconst (v := nI 0) hx hb dX10_init_247 (by decide) ?_
        refine lv_istore_n (lv' := [(1, .int (nI 0)), (0, .ref (ad 60))]) hx hb dX10_init_248 rfl hl (by decide) rfl (fun ls hl => ?_)
        have lp249_1930 : ∀ (fuel : Nat) (i2 : Nat) (h : Nat → Bool) (Mx : Mem) (Hx : Heap) (locsx : List Loc) (ls : Array Slot), (6 - i2) < fuel → (i2 ≤ 6) → (∀ j, j < i2 → h j = true) → Iv G z ad_1828 Mx s Hx locsx → Mx 60 = some (cModel ad_1828 0 0 0 0 0 0 0 0 0 0 (-1)) → Mx 61 = some (aI G 36 (nF (fun _ => 0))) → Mx 62 = some (aI G 36 (nF g)) → Mx 63 = some (aI G 36 (nF (fun _ => 0))) → Mx 64 = some (aZ G 6 (bF h)) → Mx 65 = some (aI G 120 (nF (fun _ => 0))) → Mx 66 = some (aI G 120 (nF (fun _ => 0))) → Mx 67 = some (aI G 120 (nF (fun _ => 0))) → Mx 68 = some (aI G 121 (nF (fun _ => 0))) → Mx 69 = some (aI G 726 (nF (fun _ => 0))) → Mx 70 = some (aI G 726 (nF (fun _ => 0))) → Mx 71 = some (aI G 40 (nF (fun _ => 0))) → Mx 72 = some (aI G 40 (nF (fun _ => 0))) → Mx 73 = some (aI G 40 (nF (fun _ => 0))) → Mx 74 = some (aI G 120 (nF (fun _ => 0))) → Mx 75 = some (aI G 12 (nF (fun _ => 0))) → Mx 76 = some (aZ G 12 (bF (fun _ => false))) → Mx 77 = some (aI G 12 (nF (fun _ => 0))) → Mx 78 = some (aI G 48 (nF (fun _ => 0))) → Mx 79 = some (aI G 48 (nF (fun _ => 0))) → Mx 80 = some (aB G 400 (fun _ => 0)) → Mx 81 = some (aI G 5 (nF (fun _ => 0))) → Mx 82 = some (aZ G 384000 (bF (fun _ => false))) → Mx 83 = some (aI G 3 (nF (fun _ => 0))) → Mx 84 = some (aI G 3 (nF (fun _ => 0))) → Mx 85 = some (aZ G 40 (bF (fun _ => false))) → Mx 86 = some (aZ G 120 (bF (fun _ => false))) → Mx 87 = some (aZ G 120 (bF (fun _ => false))) → (∀ j : Nat, j ≠ 60 → j ≠ 61 → j ≠ 62 → j ≠ 63 → j ≠ 64 → j ≠ 65 → j ≠ 66 → j ≠ 67 → j ≠ 68 → j ≠ 69 → j ≠ 70 → j ≠ 71 → j ≠ 72 → j ≠ 73 → j ≠ 74 → j ≠ 75 → j ≠ 76 → j ≠ 77 → j ≠ 78 → j ≠ 79 → j ≠ 80 → j ≠ 81 → j ≠ 82 → j ≠ 83 → j ≠ 84 → j ≠ 85 → j ≠ 86 → j ≠ 87 → Mx j = M j) → lv_has ls 2 [(0, .ref (ad 60)), (1, .int (nI i2))] → W p l e (headSpec wsX10_init rm_c_X10_init).room s m ([.ref (ad 60)] : List Value).toArray below meth c Hx locsx 27 387110 Q (F0 m 249 ls []) := by
          intro fuel
          induction fuel with
          | zero => intro i2 h Mx Hx locsx ls hfu hi2 hh hI hm_1931 hm_1932 hm_1933 hm_1934 hm_1935 hm_1936 hm_1937 hm_1938 hm_1939 hm_1940 hm_1941 hm_1942 hm_1943 hm_1944 hm_1945 hm_1946 hm_1947 hm_1948 hm_1949 hm_1950 hm_1951 hm_1952 hm_1953 hm_1954 hm_1955 hm_1956 hm_1957 hm_1958 hF_1960 hl; exact absurd hfu (Nat.not_lt_zero _)
          | succ fuel ih_1961 =>
            intro i2 h Mx Hx locsx ls hfu hi2 hh hI hm_1931 hm_1932 hm_1933 hm_1934 hm_1935 hm_1936 hm_1937 hm_1938 hm_1939 hm_1940 hm_1941 hm_1942 hm_1943 hm_1944 hm_1945 hm_1946 hm_1947 hm_1948 hm_1949 hm_1950 hm_1951 hm_1952 hm_1953 hm_1954 hm_1955 hm_1956 hm_1957 hm_1958 hF_1960 hl
            refine lv_iload_n hx hb dX10_init_249 rfl (lv_at hl 1 rfl) ?_
            refine lv_bipush (v := nI 6) hx hb dX10_init_250 (by decide) ?_
            refine lv_icmp_ge (tgt := 268) hx hb dX10_init_252 (by decide) (fun c_1962 => ?_) (fun c_1962 => ?_)
            · -- 252: nI i2 ge
              have c_1962 : 6 ≤ i2 := (nI_leI (a := 6) (b := i2) (by omega) (by omega)).mp (c_1962)
              refine lv_aload_n hx hb dX10_init_268 rfl (lv_at hl 0 rfl) ?_
              refine n_eqv (show Value.ref (ad 60) = .ref (ad_1828 60) from by rw [hAd_1834 60 (by decide), hAd_1765 60 (by decide), hAd_1696 60 (by decide), hAd_1627 60 (by decide), hAd_1558 60 (by decide), hAd_1489 60 (by decide), hAd_1420 60 (by decide), hAd_1318 60 (by decide), hAd_1249 60 (by decide), hAd_1180 60 (by decide), hAd_1111 60 (by decide), hAd_1042 60 (by decide), hAd_973 60 (by decide), hAd_904 60 (by decide), hAd_835 60 (by decide), hAd_766 60 (by decide), hAd_697 60 (by decide), hAd_628 60 (by decide), hAd_559 60 (by decide), hAd_490 60 (by decide), hAd_421 60 (by decide), hAd_352 60 (by decide), hAd_283 60 (by decide), hAd_214 60 (by decide), hAd_145 60 (by decide), hAd_76 60 (by decide), hAd_7 60 (by decide)]) ?_
              refine k_Nv (va_runV (As := []) (rest := []) ⟨hx, hb, hml, hown, hts⟩ (c_X10_counts l G z ad_1828 Mx (th := 0) (ln := 0) (on := 0) (ao := 0) (vr := 0) (sn := 0) (tp := 0) (pt := 0) (zs := 0) (bg := 0) (fa := (-1)) (lst := (fun _ => 0)) (oa := (fun _ => 0)) (ob := (fun _ => 0)) hm_1931 hm_1942 hm_1943 hm_1944 (by omega) (fun i9 h9 => absurd h9 (Nat.not_lt_zero i9))) (cwV 0 hts (gV (lwg_of t_1008 rfl) (lwg_of t_1010 rfl) (lwg_of ts_22 rfl) (lwg_of t_13 rfl) (lwg_of t_1011 rfl)) rfl rfl rfl (by decide +kernel) ⟨Nat.le_of_ble_eq_true rfl, Nat.le_of_ble_eq_true rfl⟩) (hI.preV hm_1931 rfl) rfl rfl hl.1 rfl (lv_room (Nat.le_of_ble_eq_true rfl)) dX10_init_269 ⟨Nat.le_of_ble_eq_true rfl, Nat.le_of_ble_eq_true rfl⟩) hI (fun M_1965 H_1966 locs_1967 hp_1964 hI => ?_)
              obtain ⟨l2_1971, hm_1968, hF_1969, hP_1970⟩ := hp_1964
              have hm_1972 : M_1965 60 = some (cModel ad_1828 0 0 0 0 0 0 0 0 0 0 (-1)) := by rw [hF_1969 60 (by omega)]; exact hm_1931
              have hm_1973 : M_1965 61 = some (aI G 36 (nF (fun _ => 0))) := by rw [hF_1969 61 (by omega)]; exact hm_1932
              have hm_1974 : M_1965 62 = some (aI G 36 (nF g)) := by rw [hF_1969 62 (by omega)]; exact hm_1933
              have hm_1975 : M_1965 63 = some (aI G 36 (nF (fun _ => 0))) := by rw [hF_1969 63 (by omega)]; exact hm_1934
              have hm_1976 : M_1965 64 = some (aZ G 6 (bF h)) := by rw [hF_1969 64 (by omega)]; exact hm_1935
              have hm_1977 : M_1965 65 = some (aI G 120 (nF (fun _ => 0))) := by rw [hF_1969 65 (by omega)]; exact hm_1936
              have hm_1978 : M_1965 66 = some (aI G 120 (nF (fun _ => 0))) := by rw [hF_1969 66 (by omega)]; exact hm_1937
              have hm_1979 : M_1965 67 = some (aI G 120 (nF (fun _ => 0))) := by rw [hF_1969 67 (by omega)]; exact hm_1938
              have hm_1980 : M_1965 68 = some (aI G 121 (nF (fun _ => 0))) := by rw [hF_1969 68 (by omega)]; exact hm_1939
              have hm_1981 : M_1965 69 = some (aI G 726 (nF (fun _ => 0))) := by rw [hF_1969 69 (by omega)]; exact hm_1940
              have hm_1982 : M_1965 70 = some (aI G 726 (nF (fun _ => 0))) := by rw [hF_1969 70 (by omega)]; exact hm_1941
              have hm_1983 : M_1965 72 = some (aI G 40 (nF (fun _ => 0))) := by rw [hF_1969 72 (by omega)]; exact hm_1943
              have hm_1984 : M_1965 73 = some (aI G 40 (nF (fun _ => 0))) := by rw [hF_1969 73 (by omega)]; exact hm_1944
              have hm_1985 : M_1965 74 = some (aI G 120 (nF (fun _ => 0))) := by rw [hF_1969 74 (by omega)]; exact hm_1945
              have hm_1986 : M_1965 75 = some (aI G 12 (nF (fun _ => 0))) := by rw [hF_1969 75 (by omega)]; exact hm_1946
              have hm_1987 : M_1965 76 = some (aZ G 12 (bF (fun _ => false))) := by rw [hF_1969 76 (by omega)]; exact hm_1947
              have hm_1988 : M_1965 77 = some (aI G 12 (nF (fun _ => 0))) := by rw [hF_1969 77 (by omega)]; exact hm_1948
              have hm_1989 : M_1965 78 = some (aI G 48 (nF (fun _ => 0))) := by rw [hF_1969 78 (by omega)]; exact hm_1949
              have hm_1990 : M_1965 79 = some (aI G 48 (nF (fun _ => 0))) := by rw [hF_1969 79 (by omega)]; exact hm_1950
              have hm_1991 : M_1965 80 = some (aB G 400 (fun _ => 0)) := by rw [hF_1969 80 (by omega)]; exact hm_1951
              have hm_1992 : M_1965 81 = some (aI G 5 (nF (fun _ => 0))) := by rw [hF_1969 81 (by omega)]; exact hm_1952
              have hm_1993 : M_1965 82 = some (aZ G 384000 (bF (fun _ => false))) := by rw [hF_1969 82 (by omega)]; exact hm_1953
              have hm_1994 : M_1965 83 = some (aI G 3 (nF (fun _ => 0))) := by rw [hF_1969 83 (by omega)]; exact hm_1954
              have hm_1995 : M_1965 84 = some (aI G 3 (nF (fun _ => 0))) := by rw [hF_1969 84 (by omega)]; exact hm_1955
              have hm_1996 : M_1965 85 = some (aZ G 40 (bF (fun _ => false))) := by rw [hF_1969 85 (by omega)]; exact hm_1956
              have hm_1997 : M_1965 86 = some (aZ G 120 (bF (fun _ => false))) := by rw [hF_1969 86 (by omega)]; exact hm_1957
              have hm_1998 : M_1965 87 = some (aZ G 120 (bF (fun _ => false))) := by rw [hF_1969 87 (by omega)]; exact hm_1958
              have hF_1999 : ∀ j : Nat, j ≠ 60 → j ≠ 61 → j ≠ 62 → j ≠ 63 → j ≠ 64 → j ≠ 65 → j ≠ 66 → j ≠ 67 → j ≠ 68 → j ≠ 69 → j ≠ 70 → j ≠ 71 → j ≠ 72 → j ≠ 73 → j ≠ 74 → j ≠ 75 → j ≠ 76 → j ≠ 77 → j ≠ 78 → j ≠ 79 → j ≠ 80 → j ≠ 81 → j ≠ 82 → j ≠ 83 → j ≠ 84 → j ≠ 85 → j ≠ 86 → j ≠ 87 → M_1965 j = M j := fun j q0 q1 q2 q3 q4 q5 q6 q7 q8 q9 q10 q11 q12 q13 q14 q15 q16 q17 q18 q19 q20 q21 q22 q23 q24 q25 q26 q27 => (hF_1969 j q11).trans (hF_1960 j q0 q1 q2 q3 q4 q5 q6 q7 q8 q9 q10 q11 q12 q13 q14 q15 q16 q17 q18 q19 q20 q21 q22 q23 q24 q25 q26 q27)
              subst hQ
              exact e_Av hx hb hr hlocks hI ⟨g, h, l2_1971, hm_1972, hm_1973, hm_1974, hm_1975, hm_1976, hm_1977, hm_1978, hm_1979, hm_1980, hm_1981, hm_1982, hm_1968, hm_1983, hm_1984, hm_1985, hm_1986, hm_1987, hm_1988, hm_1989, hm_1990, hm_1991, hm_1992, hm_1993, hm_1994, hm_1995, hm_1996, hm_1997, hm_1998, (fun j q0 q1 q2 q3 q4 q5 q6 q7 q8 q9 q10 q11 q12 q13 q14 q15 q16 q17 q18 q19 q20 q21 q22 q23 q24 q25 q26 q27 => hF_1999 j q0 q1 q2 q3 q4 q5 q6 q7 q8 q9 q10 q11 q12 q13 q14 q15 q16 q17 q18 q19 q20 q21 q22 q23 q24 q25 q26 q27), (fun j q0 q1 q2 q3 q4 q5 q6 q7 q8 q9 q10 q11 q12 q13 q14 q15 q16 q17 q18 q19 q20 q21 q22 q23 q24 q25 q26 => (by show ad_1828 j = ad j; rw [hAd_1834 j q26, hAd_1765 j q25, hAd_1696 j q24, hAd_1627 j q23, hAd_1558 j q22, hAd_1489 j q21, hAd_1420 j q20, hAd_1318 j q19, hAd_1249 j q18, hAd_1180 j q17, hAd_1111 j q16, hAd_1042 j q15, hAd_973 j q14, hAd_904 j q13, hAd_835 j q12, hAd_766 j q11, hAd_697 j q10, hAd_628 j q9, hAd_559 j q8, hAd_490 j q7, hAd_421 j q6, hAd_352 j q5, hAd_283 j q4, hAd_214 j q3, hAd_145 j q2, hAd_76 j q1, hAd_7 j q0])), ⟨⟨(fun j hj => hg j (by omega)), (fun j hj => hh j (by omega))⟩, hP_1970⟩⟩ dX10_init_272
            · -- 252: nI i2 lt
              have c_1962 : i2 < 6 := by have h := mt (nI_leI (a := 6) (b := i2) (by omega) (by omega)).mpr c_1962; omega
              refine lv_aload_n hx hb dX10_init_255 rfl (lv_at hl 0 rfl) ?_
              refine n_eqv (show Value.ref (ad 60) = .ref (ad_1828 60) from by rw [hAd_1834 60 (by decide), hAd_1765 60 (by decide), hAd_1696 60 (by decide), hAd_1627 60 (by decide), hAd_1558 60 (by decide), hAd_1489 60 (by decide), hAd_1420 60 (by decide), hAd_1318 60 (by decide), hAd_1249 60 (by decide), hAd_1180 60 (by decide), hAd_1111 60 (by decide), hAd_1042 60 (by decide), hAd_973 60 (by decide), hAd_904 60 (by decide), hAd_835 60 (by decide), hAd_766 60 (by decide), hAd_697 60 (by decide), hAd_628 60 (by decide), hAd_559 60 (by decide), hAd_490 60 (by decide), hAd_421 60 (by decide), hAd_352 60 (by decide), hAd_283 60 (by decide), hAd_214 60 (by decide), hAd_145 60 (by decide), hAd_76 60 (by decide), hAd_7 60 (by decide)]) ?_
              refine h_get (C := RX10) (T := TX10) (N := 38) hx hb hts i_RX10 hown hI hm_1931 rfl 4 (by decide) f_23 rfl rfl dX10_init_256 ?_
              refine lv_iload_n hx hb dX10_init_259 rfl (lv_at hl 1 rfl) ?_
              refine lv_iconst (v := nI 1) hx hb dX10_init_260 (by decide) ?_
              refine h_zast (i := i2) (x := nI 1) hx hb hI hm_1935 (by omega) (by decide) rfl dX10_init_261 (fun M_2000 H_2001 locs_2002 eM_2003 hI => ?_)
              rw [upd_bF_1] at eM_2003
              have hm_2004 : M_2000 60 = some (cModel ad_1828 0 0 0 0 0 0 0 0 0 0 (-1)) := by rw [eM_2003, va_up_ne _ _ (by decide)]; exact hm_1931
              have hm_2005 : M_2000 61 = some (aI G 36 (nF (fun _ => 0))) := by rw [eM_2003, va_up_ne _ _ (by decide)]; exact hm_1932
              have hm_2006 : M_2000 62 = some (aI G 36 (nF g)) := by rw [eM_2003, va_up_ne _ _ (by decide)]; exact hm_1933
              have hm_2007 : M_2000 63 = some (aI G 36 (nF (fun _ => 0))) := by rw [eM_2003, va_up_ne _ _ (by decide)]; exact hm_1934
              have hm_2008 : M_2000 64 = some (aZ G 6 (bF (va_up h i2 true))) := by rw [eM_2003]; exact va_up_self _ _ _
              have hm_2009 : M_2000 65 = some (aI G 120 (nF (fun _ => 0))) := by rw [eM_2003, va_up_ne _ _ (by decide)]; exact hm_1936
              have hm_2010 : M_2000 66 = some (aI G 120 (nF (fun _ => 0))) := by rw [eM_2003, va_up_ne _ _ (by decide)]; exact hm_1937
              have hm_2011 : M_2000 67 = some (aI G 120 (nF (fun _ => 0))) := by rw [eM_2003, va_up_ne _ _ (by decide)]; exact hm_1938
              have hm_2012 : M_2000 68 = some (aI G 121 (nF (fun _ => 0))) := by rw [eM_2003, va_up_ne _ _ (by decide)]; exact hm_1939
              have hm_2013 : M_2000 69 = some (aI G 726 (nF (fun _ => 0))) := by rw [eM_2003, va_up_ne _ _ (by decide)]; exact hm_1940
              have hm_2014 : M_2000 70 = some (aI G 726 (nF (fun _ => 0))) := by rw [eM_2003, va_up_ne _ _ (by decide)]; exact hm_1941
              have hm_2015 : M_2000 71 = some (aI G 40 (nF (fun _ => 0))) := by rw [eM_2003, va_up_ne _ _ (by decide)]; exact hm_1942
              have hm_2016 : M_2000 72 = some (aI G 40 (nF (fun _ => 0))) := by rw [eM_2003, va_up_ne _ _ (by decide)]; exact hm_1943
              have hm_2017 : M_2000 73 = some (aI G 40 (nF (fun _ => 0))) := by rw [eM_2003, va_up_ne _ _ (by decide)]; exact hm_1944
              have hm_2018 : M_2000 74 = some (aI G 120 (nF (fun _ => 0))) := by rw [eM_2003, va_up_ne _ _ (by decide)]; exact hm_1945
              have hm_2019 : M_2000 75 = some (aI G 12 (nF (fun _ => 0))) := by rw [eM_2003, va_up_ne _ _ (by decide)]; exact hm_1946
              have hm_2020 : M_2000 76 = some (aZ G 12 (bF (fun _ => false))) := by rw [eM_2003, va_up_ne _ _ (by decide)]; exact hm_1947
              have hm_2021 : M_2000 77 = some (aI G 12 (nF (fun _ => 0))) := by rw [eM_2003, va_up_ne _ _ (by decide)]; exact hm_1948
              have hm_2022 : M_2000 78 = some (aI G 48 (nF (fun _ => 0))) := by rw [eM_2003, va_up_ne _ _ (by decide)]; exact hm_1949
              have hm_2023 : M_2000 79 = some (aI G 48 (nF (fun _ => 0))) := by rw [eM_2003, va_up_ne _ _ (by decide)]; exact hm_1950
              have hm_2024 : M_2000 80 = some (aB G 400 (fun _ => 0)) := by rw [eM_2003, va_up_ne _ _ (by decide)]; exact hm_1951
              have hm_2025 : M_2000 81 = some (aI G 5 (nF (fun _ => 0))) := by rw [eM_2003, va_up_ne _ _ (by decide)]; exact hm_1952
              have hm_2026 : M_2000 82 = some (aZ G 384000 (bF (fun _ => false))) := by rw [eM_2003, va_up_ne _ _ (by decide)]; exact hm_1953
              have hm_2027 : M_2000 83 = some (aI G 3 (nF (fun _ => 0))) := by rw [eM_2003, va_up_ne _ _ (by decide)]; exact hm_1954
              have hm_2028 : M_2000 84 = some (aI G 3 (nF (fun _ => 0))) := by rw [eM_2003, va_up_ne _ _ (by decide)]; exact hm_1955
              have hm_2029 : M_2000 85 = some (aZ G 40 (bF (fun _ => false))) := by rw [eM_2003, va_up_ne _ _ (by decide)]; exact hm_1956
              have hm_2030 : M_2000 86 = some (aZ G 120 (bF (fun _ => false))) := by rw [eM_2003, va_up_ne _ _ (by decide)]; exact hm_1957
              have hm_2031 : M_2000 87 = some (aZ G 120 (bF (fun _ => false))) := by rw [eM_2003, va_up_ne _ _ (by decide)]; exact hm_1958
              have hF_2032 : ∀ j : Nat, j ≠ 60 → j ≠ 61 → j ≠ 62 → j ≠ 63 → j ≠ 64 → j ≠ 65 → j ≠ 66 → j ≠ 67 → j ≠ 68 → j ≠ 69 → j ≠ 70 → j ≠ 71 → j ≠ 72 → j ≠ 73 → j ≠ 74 → j ≠ 75 → j ≠ 76 → j ≠ 77 → j ≠ 78 → j ≠ 79 → j ≠ 80 → j ≠ 81 → j ≠ 82 → j ≠ 83 → j ≠ 84 → j ≠ 85 → j ≠ 86 → j ≠ 87 → M_2000 j = M j := fun j q0 q1 q2 q3 q4 q5 q6 q7 q8 q9 q10 q11 q12 q13 q14 q15 q16 q17 q18 q19 q20 q21 q22 q23 q24 q25 q26 q27 => by rw [eM_2003, va_up_ne _ _ q4]; exact hF_1960 j q0 q1 q2 q3 q4 q5 q6 q7 q8 q9 q10 q11 q12 q13 q14 q15 q16 q17 q18 q19 q20 q21 q22 q23 q24 q25 q26 q27
              clear hm_1931 hm_1932 hm_1933 hm_1934 hm_1935 hm_1936 hm_1937 hm_1938 hm_1939 hm_1940 hm_1941 hm_1942 hm_1943 hm_1944 hm_1945 hm_1946 hm_1947 hm_1948 hm_1949 hm_1950 hm_1951 hm_1952 hm_1953 hm_1954 hm_1955 hm_1956 hm_1957 hm_1958 hF_1960
              refine lv_iinc (v := nI (i2 + 1)) (lv' := [(1, .int (nI (i2 + 1))), (0, .ref (ad 60))]) hx hb dX10_init_262 hl (k := 1) rfl (nI_add i2 1) (by decide) rfl (fun ls hl => ?_)
              refine lv_goto (tgt := 249) hx hb dX10_init_265 (by decide) ?_
              exact ih_1961 (i2 + 1) (va_up h i2 true) M_2000 H_2001 locs_2002 ls (by omega) (by omega) (lt_s2 (fun j hj => (va_up_ne _ _ (by omega)).trans (hh j hj)) (va_up_self _ _ _)) hI hm_2004 hm_2005 hm_2006 hm_2007 hm_2008 hm_2009 hm_2010 hm_2011 hm_2012 hm_2013 hm_2014 hm_2015 hm_2016 hm_2017 hm_2018 hm_2019 hm_2020 hm_2021 hm_2022 hm_2023 hm_2024 hm_2025 hm_2026 hm_2027 hm_2028 hm_2029 hm_2030 hm_2031 (fun j q0 q1 q2 q3 q4 q5 q6 q7 q8 q9 q10 q11 q12 q13 q14 q15 q16 q17 q18 q19 q20 q21 q22 q23 q24 q25 q26 q27 => hF_2032 j q0 q1 q2 q3 q4 q5 q6 q7 q8 q9 q10 q11 q12 q13 q14 q15 q16 q17 q18 q19 q20 q21 q22 q23 q24 q25 q26 q27) (lv_sub hl [1, 0] rfl)
        exact lp249_1930 ((6 - 0) + 1) 0 (fun _ => false) Mx Hx locsx ls (Nat.lt_succ_self _) (by omega) (fun j hj => absurd hj (Nat.not_lt_zero j)) hI hm_1898 hm_1899 hm_1900 hm_1901 hm_1902 hm_1903 hm_1904 hm_1905 hm_1906 hm_1907 hm_1908 hm_1909 hm_1910 hm_1911 hm_1912 hm_1913 hm_1914 hm_1915 hm_1916 hm_1917 hm_1918 hm_1919 hm_1920 hm_1921 hm_1922 hm_1923 hm_1924 hm_1925 (fun j q0 q1 q2 q3 q4 q5 q6 q7 q8 q9 q10 q11 q12 q13 q14 q15 q16 q17 q18 q19 q20 q21 q22 q23 q24 q25 q26 q27 => hF_1927 j q0 q1 q2 q3 q4 q5 q6 q7 q8 q9 q10 q11 q12 q13 q14 q15 q16 q17 q18 q19 q20 q21 q22 q23 q24 q25 q26 q27) (lv_sub hl [1, 0] rfl)
      · -- 230: nI i lt
        have c_1929 : i < 36 := by have h := mt (nI_leI (a := 36) (b := i) (by omega) (by omega)).mpr c_1929; omega
        refine lv_aload_n hx hb dX10_init_233 rfl (lv_at hl 0 rfl) ?_
        refine n_eqv (show Value.ref (ad 60) = .ref (ad_1828 60) from by rw [hAd_1834 60 (by decide), hAd_1765 60 (by decide), hAd_1696 60 (by decide), hAd_1627 60 (by decide), hAd_1558 60 (by decide), hAd_1489 60 (by decide), hAd_1420 60 (by decide), hAd_1318 60 (by decide), hAd_1249 60 (by decide), hAd_1180 60 (by decide), hAd_1111 60 (by decide), hAd_1042 60 (by decide), hAd_973 60 (by decide), hAd_904 60 (by decide), hAd_835 60 (by decide), hAd_766 60 (by decide), hAd_697 60 (by decide), hAd_628 60 (by decide), hAd_559 60 (by decide), hAd_490 60 (by decide), hAd_421 60 (by decide), hAd_352 60 (by decide), hAd_283 60 (by decide), hAd_214 60 (by decide), hAd_145 60 (by decide), hAd_76 60 (by decide), hAd_7 60 (by decide)]) ?_
        refine h_get (C := RX10) (T := TX10) (N := 38) hx hb hts i_RX10 hown hI hm_1898 rfl 2 (by decide) f_17 rfl rfl dX10_init_234 ?_
        refine lv_iload_n hx hb dX10_init_237 rfl (lv_at hl 1 rfl) ?_
        refine lv_bipush (v := nI 6) hx hb dX10_init_238 (by decide) ?_
        refine h_iast (i := i) (x := nI 6) hx hb hI hm_1900 (by omega) (by decide) dX10_init_240 (fun M_2033 H_2034 locs_2035 eM_2036 hI => ?_)
        rw [upd_nF] at eM_2036
        have hm_2037 : M_2033 60 = some (cModel ad_1828 0 0 0 0 0 0 0 0 0 0 (-1)) := by rw [eM_2036, va_up_ne _ _ (by decide)]; exact hm_1898
        have hm_2038 : M_2033 61 = some (aI G 36 (nF (fun _ => 0))) := by rw [eM_2036, va_up_ne _ _ (by decide)]; exact hm_1899
        have hm_2039 : M_2033 62 = some (aI G 36 (nF (va_up g i 6))) := by rw [eM_2036]; exact va_up_self _ _ _
        have hm_2040 : M_2033 63 = some (aI G 36 (nF (fun _ => 0))) := by rw [eM_2036, va_up_ne _ _ (by decide)]; exact hm_1901
        have hm_2041 : M_2033 64 = some (aZ G 6 (bF (fun _ => false))) := by rw [eM_2036, va_up_ne _ _ (by decide)]; exact hm_1902
        have hm_2042 : M_2033 65 = some (aI G 120 (nF (fun _ => 0))) := by rw [eM_2036, va_up_ne _ _ (by decide)]; exact hm_1903
        have hm_2043 : M_2033 66 = some (aI G 120 (nF (fun _ => 0))) := by rw [eM_2036, va_up_ne _ _ (by decide)]; exact hm_1904
        have hm_2044 : M_2033 67 = some (aI G 120 (nF (fun _ => 0))) := by rw [eM_2036, va_up_ne _ _ (by decide)]; exact hm_1905
        have hm_2045 : M_2033 68 = some (aI G 121 (nF (fun _ => 0))) := by rw [eM_2036, va_up_ne _ _ (by decide)]; exact hm_1906
        have hm_2046 : M_2033 69 = some (aI G 726 (nF (fun _ => 0))) := by rw [eM_2036, va_up_ne _ _ (by decide)]; exact hm_1907
        have hm_2047 : M_2033 70 = some (aI G 726 (nF (fun _ => 0))) := by rw [eM_2036, va_up_ne _ _ (by decide)]; exact hm_1908
        have hm_2048 : M_2033 71 = some (aI G 40 (nF (fun _ => 0))) := by rw [eM_2036, va_up_ne _ _ (by decide)]; exact hm_1909
        have hm_2049 : M_2033 72 = some (aI G 40 (nF (fun _ => 0))) := by rw [eM_2036, va_up_ne _ _ (by decide)]; exact hm_1910
        have hm_2050 : M_2033 73 = some (aI G 40 (nF (fun _ => 0))) := by rw [eM_2036, va_up_ne _ _ (by decide)]; exact hm_1911
        have hm_2051 : M_2033 74 = some (aI G 120 (nF (fun _ => 0))) := by rw [eM_2036, va_up_ne _ _ (by decide)]; exact hm_1912
        have hm_2052 : M_2033 75 = some (aI G 12 (nF (fun _ => 0))) := by rw [eM_2036, va_up_ne _ _ (by decide)]; exact hm_1913
        have hm_2053 : M_2033 76 = some (aZ G 12 (bF (fun _ => false))) := by rw [eM_2036, va_up_ne _ _ (by decide)]; exact hm_1914
        have hm_2054 : M_2033 77 = some (aI G 12 (nF (fun _ => 0))) := by rw [eM_2036, va_up_ne _ _ (by decide)]; exact hm_1915
        have hm_2055 : M_2033 78 = some (aI G 48 (nF (fun _ => 0))) := by rw [eM_2036, va_up_ne _ _ (by decide)]; exact hm_1916
        have hm_2056 : M_2033 79 = some (aI G 48 (nF (fun _ => 0))) := by rw [eM_2036, va_up_ne _ _ (by decide)]; exact hm_1917
        have hm_2057 : M_2033 80 = some (aB G 400 (fun _ => 0)) := by rw [eM_2036, va_up_ne _ _ (by decide)]; exact hm_1918
        have hm_2058 : M_2033 81 = some (aI G 5 (nF (fun _ => 0))) := by rw [eM_2036, va_up_ne _ _ (by decide)]; exact hm_1919
        have hm_2059 : M_2033 82 = some (aZ G 384000 (bF (fun _ => false))) := by rw [eM_2036, va_up_ne _ _ (by decide)]; exact hm_1920
        have hm_2060 : M_2033 83 = some (aI G 3 (nF (fun _ => 0))) := by rw [eM_2036, va_up_ne _ _ (by decide)]; exact hm_1921
        have hm_2061 : M_2033 84 = some (aI G 3 (nF (fun _ => 0))) := by rw [eM_2036, va_up_ne _ _ (by decide)]; exact hm_1922
        have hm_2062 : M_2033 85 = some (aZ G 40 (bF (fun _ => false))) := by rw [eM_2036, va_up_ne _ _ (by decide)]; exact hm_1923
        have hm_2063 : M_2033 86 = some (aZ G 120 (bF (fun _ => false))) := by rw [eM_2036, va_up_ne _ _ (by decide)]; exact hm_1924
        have hm_2064 : M_2033 87 = some (aZ G 120 (bF (fun _ => false))) := by rw [eM_2036, va_up_ne _ _ (by decide)]; exact hm_1925
        have hF_2065 : ∀ j : Nat, j ≠ 60 → j ≠ 61 → j ≠ 62 → j ≠ 63 → j ≠ 64 → j ≠ 65 → j ≠ 66 → j ≠ 67 → j ≠ 68 → j ≠ 69 → j ≠ 70 → j ≠ 71 → j ≠ 72 → j ≠ 73 → j ≠ 74 → j ≠ 75 → j ≠ 76 → j ≠ 77 → j ≠ 78 → j ≠ 79 → j ≠ 80 → j ≠ 81 → j ≠ 82 → j ≠ 83 → j ≠ 84 → j ≠ 85 → j ≠ 86 → j ≠ 87 → M_2033 j = M j := fun j q0 q1 q2 q3 q4 q5 q6 q7 q8 q9 q10 q11 q12 q13 q14 q15 q16 q17 q18 q19 q20 q21 q22 q23 q24 q25 q26 q27 => by rw [eM_2036, va_up_ne _ _ q2]; exact hF_1927 j q0 q1 q2 q3 q4 q5 q6 q7 q8 q9 q10 q11 q12 q13 q14 q15 q16 q17 q18 q19 q20 q21 q22 q23 q24 q25 q26 q27
        clear hm_1898 hm_1899 hm_1900 hm_1901 hm_1902 hm_1903 hm_1904 hm_1905 hm_1906 hm_1907 hm_1908 hm_1909 hm_1910 hm_1911 hm_1912 hm_1913 hm_1914 hm_1915 hm_1916 hm_1917 hm_1918 hm_1919 hm_1920 hm_1921 hm_1922 hm_1923 hm_1924 hm_1925 hF_1927
        refine lv_iinc (v := nI (i + 1)) (lv' := [(1, .int (nI (i + 1))), (0, .ref (ad 60))]) hx hb dX10_init_241 hl (k := 1) rfl (nI_add i 1) (by decide) rfl (fun ls hl => ?_)
        refine lv_goto (tgt := 227) hx hb dX10_init_244 (by decide) ?_
        exact ih_1928 (i + 1) (va_up g i 6) M_2033 H_2034 locs_2035 ls (by omega) (by omega) (lt_s2 (fun j hj => (va_up_ne _ _ (by omega)).trans (hg j hj)) (va_up_self _ _ _)) hI hm_2037 hm_2038 hm_2039 hm_2040 hm_2041 hm_2042 hm_2043 hm_2044 hm_2045 hm_2046 hm_2047 hm_2048 hm_2049 hm_2050 hm_2051 hm_2052 hm_2053 hm_2054 hm_2055 hm_2056 hm_2057 hm_2058 hm_2059 hm_2060 hm_2061 hm_2062 hm_2063 hm_2064 (fun j q0 q1 q2 q3 q4 q5 q6 q7 q8 q9 q10 q11 q12 q13 q14 q15 q16 q17 q18 q19 q20 q21 q22 q23 q24 q25 q26 q27 => hF_2065 j q0 q1 q2 q3 q4 q5 q6 q7 q8 q9 q10 q11 q12 q13 q14 q15 q16 q17 q18 q19 q20 q21 q22 q23 q24 q25 q26 q27) (lv_sub hl [1, 0] rfl)
  exact lp227_1897 ((36 - 0) + 1) 0 (fun _ => 0) M_1864 H_1865 locs_1866 ls (Nat.lt_succ_self _) (by omega) (fun j hj => absurd hj (Nat.not_lt_zero j)) hI hm_1868 hm_1869 hm_1870 hm_1871 hm_1872 hm_1873 hm_1874 hm_1875 hm_1876 hm_1877 hm_1878 hm_1879 hm_1880 hm_1881 hm_1882 hm_1883 hm_1884 hm_1885 hm_1886 hm_1887 hm_1888 hm_1889 hm_1890 hm_1891 hm_1892 hm_1893 hm_1894 hm_1895 (fun j q0 q1 q2 q3 q4 q5 q6 q7 q8 q9 q10 q11 q12 q13 q14 q15 q16 q17 q18 q19 q20 q21 q22 q23 q24 q25 q26 q27 => hF_1896 j q1 q0 q2 q3 q4 q5 q6 q7 q8 q9 q10 q11 q12 q13 q14 q15 q16 q17 q18 q19 q20 q21 q22 q23 q24 q25 q26 q27) (lv_sub hl [1, 0] rfl)
