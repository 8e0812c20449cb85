theorem iv_cg3 {G : GG} {z : Nat} {ad : Nat → Nat} {M : Mem} {s : State} {H : Heap} {locs : List Loc} {f1 f3 g1 g3 : Nat → Nat} {f2 g2 : Nat → Bool} (hI : Iv G z ad M s H locs) (h62 : M 62 = some (aI G 36 (nF f1))) (e1 : ∀ j, j < 36 → f1 j = g1 j) (h64 : M 64 = some (aZ G 6 (bF f2))) (e2 : ∀ j, j < 6 → f2 j = g2 j) (h71 : M 71 = some (aI G 40 (nF f3))) (e3 : ∀ j, j < 40 → f3 j = g3 j) : ∃ M2 : Mem, Iv G z ad M2 s H locs ∧ M2 62 = some (aI G 36 (nF g1)) ∧ M2 64 = some (aZ G 6 (bF g2)) ∧ M2 71 = some (aI G 40 (nF g3)) ∧ ∀ j, j ≠ 62 → j ≠ 64 → j ≠ 71 → M2 j = M j := by
  have i1 := iv_cg (g := nF g1) hI h62 (fun j hj => congrArg nI (e1 j hj))
  have k64 := (va_up_ne M (some (aI G 36 (nF g1))) (show (64 : Nat) ≠ 62 by decide)).trans h64
  have i2 := iv_cg (g := bF g2) i1 k64 (fun j hj => congrArg bI (e2 j hj))
  have k71 := (va_up_ne (va_up M 62 (some (aI G 36 (nF g1)))) (some (aZ G 6 (bF g2))) (show (71 : Nat) ≠ 64 by decide)).trans ((va_up_ne M (some (aI G 36 (nF g1))) (show (71 : Nat) ≠ 62 by decide)).trans h71)
  have i3 := iv_cg (g := nF g3) i2 k71 (fun j hj => congrArg nI (e3 j hj))
  refine ⟨_, i3, ?_, ?_, va_up_self _ _ _, fun j h1 h2 h3 => ?_⟩
  · rw [va_up_ne _ _ (by decide), va_up_ne _ _ (by decide), va_up_self]
  · rw [va_up_ne _ _ (by decide), va_up_self]
  · rw [va_up_ne _ _ h3, va_up_ne _ _ h2, va_up_ne _ _ h1]

set_option maxHeartbeats 8000000 in
set_option maxRecDepth 100000 in
theorem start_1 {p : Program} {l : Launch} {e : Env} {s : State} {m : MethodId} {below : List Frame} {meth : Method} {c : Code} {b L : Nat} {xs : Nat → Int32} {G : GG} (hst : l.stackTraces = false) (hx : p.tables.exec = Jvm.exec) (hb : c.code = code) (hr : meth.sig.returnType = ret) (hlocks : meth.locks = false) (hml : c.maxLocals = 7) (hown : s.vm.findClass RL = some m.cls) {cx : Cond} (hts : ∀ w ∈ cx :: lwg, w.before #[Value.ref b] s = true) (hX : va_X b L xs s s.heap) (hbl : b < s.heap.size) (hL : L ≤ 3072) {z : Nat} {ad : Nat → Nat} {M : Mem} {ls : Array Slot} (hM0 : ∀ k, M k = none) (hI : Iv G z ad M s s.heap []) (hl : lv_has ls 7 [(0, .ref b)]) (kk : ∀ (ad1 : Nat → Nat) (M1 : Mem) (H1 : Heap) (locs1 : List Loc) (ls1 : Array Slot) (mo : Nat → Nat) (ho : Nat → Bool) (hg : Nat → Nat) (lst : Nat → Nat), (((∀ i, i < 36 → mo i = 6) ∧ ∀ i, i < 6 → ho i = true) ∧ ∀ t, t < 40 → hg t = t ∧ lst t = t) → (M1 0 = some (cStore ad1 30 37 (-1))) → (M1 1 = some (cTape ad1 0)) → (M1 2 = some (aI G 400 (nF (fun _ => 0)))) → (M1 3 = some (cLaws ad1 )) → (M1 4 = some (aI G 36 (nF (fun _ => 0)))) → (M1 5 = some (aI G 36 (nF mo))) → (M1 6 = some (aI G 36 (nF (fun _ => 0)))) → (M1 7 = some (aZ G 6 (bF ho))) → (M1 8 = some (cOnes ad1 0)) → (M1 9 = some (aI G 40 (nF hg))) → (M1 10 = some (aI G 40 (nF lst))) → (M1 11 = some (aI G 40 (nF (fun _ => 0)))) → (M1 12 = some (cEnds ad1 12 0)) → (M1 13 = some (aI G 6 (nF (fun _ => 0)))) → (M1 14 = some (aI G 6 (nF (fun _ => 0)))) → (M1 15 = some (aI G 6 (nF (fun _ => 0)))) → (M1 16 = some (cLines ad1 )) → (M1 17 = some (cList ad1 (nI 0) G.2.2.2.2 0)) → (M1 19 = some (aZ G 120 (bF (fun _ => false)))) → (M1 20 = some (aI G 120 (nF (fun _ => 0)))) → (M1 21 = some (aI G 120 (nF (fun _ => 0)))) → (M1 22 = some (cReader ad1 0 0 (nI 0) (nI 0))) → (M1 23 = some (cMatcher ad1 44 0)) → (M1 24 = some (aJ G 2160 (fun _ => 0))) → (M1 25 = some (aI G 6 (nF (fun _ => 0)))) → (M1 26 = some (aJ G 240 (fun _ => 0))) → (M1 27 = some (aJ G 3 (fun _ => 0))) → (M1 28 = some (aI G 3 (nF (fun _ => 0)))) → (M1 30 = some (cQuestion ad1 30 0 0)) → (M1 31 = some (aI G 6 (nF (fun _ => 0)))) → (M1 32 = some (aZ G 6 (bF (fun _ => false)))) → (M1 33 = some (aI G 6 (nF (fun _ => 0)))) → (M1 34 = some (aI G 6 (nF (fun _ => 0)))) → (M1 35 = some (aI G 24 (nF (fun _ => 0)))) → (M1 36 = some (aI G 24 (nF (fun _ => 0)))) → (M1 37 = some (cQuestion ad1 37 0 0)) → (M1 38 = some (aI G 6 (nF (fun _ => 0)))) → (M1 39 = some (aZ G 6 (bF (fun _ => false)))) → (M1 40 = some (aI G 6 (nF (fun _ => 0)))) → (M1 41 = some (aI G 6 (nF (fun _ => 0)))) → (M1 42 = some (aI G 24 (nF (fun _ => 0)))) → (M1 43 = some (aI G 24 (nF (fun _ => 0)))) → (M1 44 = some (cQuestion ad1 44 0 0)) → (M1 45 = some (aI G 6 (nF (fun _ => 0)))) → (M1 46 = some (aZ G 6 (bF (fun _ => false)))) → (M1 47 = some (aI G 6 (nF (fun _ => 0)))) → (M1 48 = some (aI G 6 (nF (fun _ => 0)))) → (M1 49 = some (aI G 24 (nF (fun _ => 0)))) → (M1 50 = some (aI G 24 (nF (fun _ => 0)))) → (∀ j, 51 ≤ j → M1 j = none) → M1 18 = none → M1 29 = none → Iv G z ad1 M1 s H1 locs1 → lv_has ls1 7 [(0, .ref b), (1, .ref (ad1 0))] → W p l e room_1 s m #[Value.ref b] below meth c H1 locs1 49 3706 (lw_Z below #[Value.ref b] s) (F0 m 8 ls1 [])) : W p l e room_1 s m #[Value.ref b] below meth c s.heap [] 0 0 (lw_Z below #[Value.ref b] s) (F0 m 0 ls []) := by
  have nw_i8 := hts _ (List.mem_cons_of_mem _ (lwg_of t_34 rfl))
  have nw_n8 := hts _ (List.mem_cons_of_mem _ (lwg_of t_1 rfl))
  have i_RX9 : ∀ w ∈ u_ws RX9 TX9 10, w ∈ cx :: lwg := fun w h => List.mem_cons_of_mem _ (iu_X9 w h)
  have nw_c8 := hts _ (List.mem_cons_of_mem _ (lwg_of t_33 rfl))
  have sp_66 := hts _ (List.mem_cons_of_mem _ (lwg_of t_1 rfl))
  have in_66 := hts _ (List.mem_cons_of_mem _ (lwg_of t_36 rfl))
  have ml_66 := hts _ (List.mem_cons_of_mem _ (lwg_of t_35 rfl))
  refine h_new (C := RX9) (T := TX9) (N := 10) (ci := 10) (fs := [.null, .null, .null, .null, .null, .null, .null, .null, .null, .int (nI 0)]) hx hb hts i_RX9 tyX9 tyX9_ok hown nw_c8 nw_i8 nw_n8 hI rfl (fun j hj => match j, hj with | 0, _ => rfl | 1, _ => rfl | 2, _ => rfl | 3, _ => rfl | 4, _ => rfl | 5, _ => rfl | 6, _ => rfl | 7, _ => rfl | 8, _ => rfl | 9, _ => rfl | n + 10, h => absurd h (by omega)) (Nat.le_of_ble_eq_true rfl) (Nat.le_of_ble_eq_true rfl) dL_law_0 0 (hM0 0) (fun ad_1 M_2 H_3 hA_4 eM_5 hI => ?_)
  have hAd_7 : ∀ j : Nat, j ≠ 0 → ad_1 j = ad j := fun j hj => by obtain ⟨q, e⟩ := hA_4; rw [e]; exact va_up_ne _ _ hj
  have hm_8 : M_2 0 = some (.inr (10, [.null, .null, .null, .null, .null, .null, .null, .null, .null, .int (nI 0)])) := by rw [eM_5]; exact va_up_self _ _ _
  have fr_9 : M_2 1 = none := by rw [eM_5, va_up_ne _ _ (by decide)]; exact (hM0 1)
  have fr_10 : M_2 2 = none := by rw [eM_5, va_up_ne _ _ (by decide)]; exact (hM0 2)
  have fr_11 : M_2 3 = none := by rw [eM_5, va_up_ne _ _ (by decide)]; exact (hM0 3)
  have fr_12 : M_2 4 = none := by rw [eM_5, va_up_ne _ _ (by decide)]; exact (hM0 4)
  have fr_13 : M_2 5 = none := by rw [eM_5, va_up_ne _ _ (by decide)]; exact (hM0 5)
  have fr_14 : M_2 6 = none := by rw [eM_5, va_up_ne _ _ (by decide)]; exact (hM0 6)
  have fr_15 : M_2 7 = none := by rw [eM_5, va_up_ne _ _ (by decide)]; exact (hM0 7)
  have fr_16 : M_2 8 = none := by rw [eM_5, va_up_ne _ _ (by decide)]; exact (hM0 8)
  have fr_17 : M_2 9 = none := by rw [eM_5, va_up_ne _ _ (by decide)]; exact (hM0 9)
  have fr_18 : M_2 10 = none := by rw [eM_5, va_up_ne _ _ (by decide)]; exact (hM0 10)
  have fr_19 : M_2 11 = none := by rw [eM_5, va_up_ne _ _ (by decide)]; exact (hM0 11)
  have fr_20 : M_2 12 = none := by rw [eM_5, va_up_ne _ _ (by decide)]; exact (hM0 12)
  have fr_21 : M_2 13 = none := by rw [eM_5, va_up_ne _ _ (by decide)]; exact (hM0 13)
  have fr_22 : M_2 14 = none := by rw [eM_5, va_up_ne _ _ (by decide)]; exact (hM0 14)
  have fr_23 : M_2 15 = none := by rw [eM_5, va_up_ne _ _ (by decide)]; exact (hM0 15)
  have fr_24 : M_2 16 = none := by rw [eM_5, va_up_ne _ _ (by decide)]; exact (hM0 16)
  have fr_25 : M_2 17 = none := by rw [eM_5, va_up_ne _ _ (by decide)]; exact (hM0 17)
  have fr_26 : M_2 19 = none := by rw [eM_5, va_up_ne _ _ (by decide)]; exact (hM0 19)
  have fr_27 : M_2 20 = none := by rw [eM_5, va_up_ne _ _ (by decide)]; exact (hM0 20)
  have fr_28 : M_2 21 = none := by rw [eM_5, va_up_ne _ _ (by decide)]; exact (hM0 21)
  have fr_29 : M_2 22 = none := by rw [eM_5, va_up_ne _ _ (by decide)]; exact (hM0 22)
  have fr_30 : M_2 23 = none := by rw [eM_5, va_up_ne _ _ (by decide)]; exact (hM0 23)
  have fr_31 : M_2 24 = none := by rw [eM_5, va_up_ne _ _ (by decide)]; exact (hM0 24)
  have fr_32 : M_2 25 = none := by rw [eM_5, va_up_ne _ _ (by decide)]; exact (hM0 25)
  have fr_33 : M_2 26 = none := by rw [eM_5, va_up_ne _ _ (by decide)]; exact (hM0 26)
  have fr_34 : M_2 27 = none := by rw [eM_5, va_up_ne _ _ (by decide)]; exact (hM0 27)
  have fr_35 : M_2 28 = none := by rw [eM_5, va_up_ne _ _ (by decide)]; exact (hM0 28)
  have fr_36 : M_2 30 = none := by rw [eM_5, va_up_ne _ _ (by decide)]; exact (hM0 30)
  have fr_37 : M_2 31 = none := by rw [eM_5, va_up_ne _ _ (by decide)]; exact (hM0 31)
  have fr_38 : M_2 32 = none := by rw [eM_5, va_up_ne _ _ (by decide)]; exact (hM0 32)
  have fr_39 : M_2 33 = none := by rw [eM_5, va_up_ne _ _ (by decide)]; exact (hM0 33)
  have fr_40 : M_2 34 = none := by rw [eM_5, va_up_ne _ _ (by decide)]; exact (hM0 34)
  have fr_41 : M_2 35 = none := by rw [eM_5, va_up_ne _ _ (by decide)]; exact (hM0 35)
  have fr_42 : M_2 36 = none := by rw [eM_5, va_up_ne _ _ (by decide)]; exact (hM0 36)
  have fr_43 : M_2 37 = none := by rw [eM_5, va_up_ne _ _ (by decide)]; exact (hM0 37)
  have fr_44 : M_2 38 = none := by rw [eM_5, va_up_ne _ _ (by decide)]; exact (hM0 38)
  have fr_45 : M_2 39 = none := by rw [eM_5, va_up_ne _ _ (by decide)]; exact (hM0 39)
  have fr_46 : M_2 40 = none := by rw [eM_5, va_up_ne _ _ (by decide)]; exact (hM0 40)
  have fr_47 : M_2 41 = none := by rw [eM_5, va_up_ne _ _ (by decide)]; exact (hM0 41)
  have fr_48 : M_2 42 = none := by rw [eM_5, va_up_ne _ _ (by decide)]; exact (hM0 42)
  have fr_49 : M_2 43 = none := by rw [eM_5, va_up_ne _ _ (by decide)]; exact (hM0 43)
  have fr_50 : M_2 44 = none := by rw [eM_5, va_up_ne _ _ (by decide)]; exact (hM0 44)
  have fr_51 : M_2 45 = none := by rw [eM_5, va_up_ne _ _ (by decide)]; exact (hM0 45)
  have fr_52 : M_2 46 = none := by rw [eM_5, va_up_ne _ _ (by decide)]; exact (hM0 46)
  have fr_53 : M_2 47 = none := by rw [eM_5, va_up_ne _ _ (by decide)]; exact (hM0 47)
  have fr_54 : M_2 48 = none := by rw [eM_5, va_up_ne _ _ (by decide)]; exact (hM0 48)
  have fr_55 : M_2 49 = none := by rw [eM_5, va_up_ne _ _ (by decide)]; exact (hM0 49)
  have fr_56 : M_2 50 = none := by rw [eM_5, va_up_ne _ _ (by decide)]; exact (hM0 50)
  have hF_57 : ∀ j : Nat, j ≠ 0 → M_2 j = M j := fun j q0 => by rw [eM_5, va_up_ne _ _ q0]
  refine lv_dup hx hb dL_law_3 rfl ?_
  refine k_Av (va_runI (As := []) (rest := [.ref (ad_1 0)]) ⟨hx, hb, hml, hown, hts⟩ (c_X9_init l G z ad_1 M_2  hm_8 fr_9 fr_10 fr_11 fr_12 fr_13 fr_14 fr_15 fr_16 fr_17 fr_18 fr_19 fr_20 fr_21 fr_22 fr_23 fr_24 fr_25 fr_26 fr_27 fr_28 fr_29 fr_30 fr_31 fr_32 fr_33 fr_34 fr_35 fr_50 fr_51 fr_52 fr_53 fr_54 fr_55 fr_56 fr_36 fr_37 fr_38 fr_39 fr_40 fr_41 fr_42 fr_43 fr_44 fr_45 fr_46 fr_47 fr_48 fr_49) (cwI 0 hts (gU (lwg_of t_37 rfl)) rfl rfl rfl sp_66 ml_66 in_66 rfl (by decide +kernel) ⟨Nat.le_of_ble_eq_true rfl, Nat.le_of_ble_eq_true rfl⟩) hI.preS rfl rfl hl.1 rfl (lv_room (Nat.le_of_ble_eq_true rfl)) dL_law_4 ⟨Nat.le_of_ble_eq_true rfl, Nat.le_of_ble_eq_true rfl⟩) hI (fun ad_63 M_60 H_61 locs_62 hp_59 hI => ?_)
  obtain ⟨mo_116, ho_117, hg_118, lst_119, hm_64, hm_65, hm_66, hm_67, hm_68, hm_69, hm_70, hm_71, hm_72, hm_73, hm_74, hm_75, hm_76, hm_77, hm_78, hm_79, hm_80, hm_81, hm_82, hm_83, hm_84, hm_85, hm_86, hm_87, hm_88, hm_89, hm_90, hm_91, hm_92, hm_93, hm_94, hm_95, hm_96, hm_97, hm_98, hm_99, hm_100, hm_101, hm_102, hm_103, hm_104, hm_105, hm_106, hm_107, hm_108, hm_109, hm_110, hm_111, hm_112, hF_113, hAd_114, hP_115⟩ := hp_59
  have hm_120 : M_60 0 = some (cStore ad_63 30 37 (-1)) := hm_64
  have hm_121 : M_60 1 = some (cTape ad_63 0) := hm_65
  have hm_122 : M_60 2 = some (aI G 400 (nF (fun _ => 0))) := hm_66
  have hm_123 : M_60 3 = some (cLaws ad_63 ) := hm_67
  have hm_124 : M_60 4 = some (aI G 36 (nF (fun _ => 0))) := hm_68
  have hm_125 : M_60 5 = some (aI G 36 (nF mo_116)) := hm_69
  have hm_126 : M_60 6 = some (aI G 36 (nF (fun _ => 0))) := hm_70
  have hm_127 : M_60 7 = some (aZ G 6 (bF ho_117)) := hm_71
  have hm_128 : M_60 8 = some (cOnes ad_63 0) := hm_72
  have hm_129 : M_60 9 = some (aI G 40 (nF hg_118)) := hm_73
  have hm_130 : M_60 10 = some (aI G 40 (nF lst_119)) := hm_74
  have hm_131 : M_60 11 = some (aI G 40 (nF (fun _ => 0))) := hm_75
  have hm_132 : M_60 12 = some (cEnds ad_63 12 0) := hm_76
  have hm_133 : M_60 13 = some (aI G 6 (nF (fun _ => 0))) := hm_77
  have hm_134 : M_60 14 = some (aI G 6 (nF (fun _ => 0))) := hm_78
  have hm_135 : M_60 15 = some (aI G 6 (nF (fun _ => 0))) := hm_79
  have hm_136 : M_60 16 = some (cLines ad_63 ) := hm_80
  have hm_137 : M_60 17 = some (cList ad_63 (nI 0) G.2.2.2.2 0) := hm_81
  have hm_138 : M_60 19 = some (aZ G 120 (bF (fun _ => false))) := hm_82
  have hm_139 : M_60 20 = some (aI G 120 (nF (fun _ => 0))) := hm_83
  have hm_140 : M_60 21 = some (aI G 120 (nF (fun _ => 0))) := hm_84
  have hm_141 : M_60 22 = some (cReader ad_63 0 0 (nI 0) (nI 0)) := hm_85
  have hm_142 : M_60 23 = some (cMatcher ad_63 44 0) := hm_86
  have hm_143 : M_60 24 = some (aJ G 2160 (fun _ => 0)) := hm_87
  have hm_144 : M_60 25 = some (aI G 6 (nF (fun _ => 0))) := hm_88
  have hm_145 : M_60 26 = some (aJ G 240 (fun _ => 0)) := hm_89
  have hm_146 : M_60 27 = some (aJ G 3 (fun _ => 0)) := hm_90
  have hm_147 : M_60 28 = some (aI G 3 (nF (fun _ => 0))) := hm_91
  have hm_148 : M_60 44 = some (cQuestion ad_63 44 0 0) := hm_92
  have hm_149 : M_60 45 = some (aI G 6 (nF (fun _ => 0))) := hm_93
  have hm_150 : M_60 46 = some (aZ G 6 (bF (fun _ => false))) := hm_94
  have hm_151 : M_60 47 = some (aI G 6 (nF (fun _ => 0))) := hm_95
  have hm_152 : M_60 48 = some (aI G 6 (nF (fun _ => 0))) := hm_96
  have hm_153 : M_60 49 = some (aI G 24 (nF (fun _ => 0))) := hm_97
  have hm_154 : M_60 50 = some (aI G 24 (nF (fun _ => 0))) := hm_98
  have hm_155 : M_60 30 = some (cQuestion ad_63 30 0 0) := hm_99
  have hm_156 : M_60 31 = some (aI G 6 (nF (fun _ => 0))) := hm_100
  have hm_157 : M_60 32 = some (aZ G 6 (bF (fun _ => false))) := hm_101
  have hm_158 : M_60 33 = some (aI G 6 (nF (fun _ => 0))) := hm_102
  have hm_159 : M_60 34 = some (aI G 6 (nF (fun _ => 0))) := hm_103
  have hm_160 : M_60 35 = some (aI G 24 (nF (fun _ => 0))) := hm_104
  have hm_161 : M_60 36 = some (aI G 24 (nF (fun _ => 0))) := hm_105
  have hm_162 : M_60 37 = some (cQuestion ad_63 37 0 0) := hm_106
  have hm_163 : M_60 38 = some (aI G 6 (nF (fun _ => 0))) := hm_107
  have hm_164 : M_60 39 = some (aZ G 6 (bF (fun _ => false))) := hm_108
  have hm_165 : M_60 40 = some (aI G 6 (nF (fun _ => 0))) := hm_109
  have hm_166 : M_60 41 = some (aI G 6 (nF (fun _ => 0))) := hm_110
  have hm_167 : M_60 42 = some (aI G 24 (nF (fun _ => 0))) := hm_111
  have hm_168 : M_60 43 = some (aI G 24 (nF (fun _ => 0))) := hm_112
  have hAd_169 : ∀ j : Nat, j ≠ 1 → j ≠ 2 → j ≠ 3 → j ≠ 4 → j ≠ 5 → j ≠ 6 → j ≠ 7 → j ≠ 8 → j ≠ 9 → j ≠ 10 → j ≠ 11 → j ≠ 12 → j ≠ 13 → j ≠ 14 → j ≠ 15 → j ≠ 16 → j ≠ 17 → j ≠ 19 → j ≠ 20 → j ≠ 21 → j ≠ 22 → j ≠ 23 → j ≠ 24 → j ≠ 25 → j ≠ 26 → j ≠ 27 → j ≠ 28 → j ≠ 44 → j ≠ 45 → j ≠ 46 → j ≠ 47 → j ≠ 48 → j ≠ 49 → j ≠ 50 → j ≠ 30 → j ≠ 31 → j ≠ 32 → j ≠ 33 → j ≠ 34 → j ≠ 35 → j ≠ 36 → j ≠ 37 → j ≠ 38 → j ≠ 39 → j ≠ 40 → j ≠ 41 → j ≠ 42 → j ≠ 43 → ad_63 j = ad_1 j := hAd_114
  have hF_170 : ∀ j : Nat, j ≠ 0 → j ≠ 1 → j ≠ 2 → j ≠ 3 → j ≠ 4 → j ≠ 5 → j ≠ 6 → j ≠ 7 → j ≠ 8 → j ≠ 9 → j ≠ 10 → j ≠ 11 → j ≠ 12 → j ≠ 13 → j ≠ 14 → j ≠ 15 → j ≠ 16 → j ≠ 17 → j ≠ 19 → j ≠ 20 → j ≠ 21 → j ≠ 22 → j ≠ 23 → j ≠ 24 → j ≠ 25 → j ≠ 26 → j ≠ 27 → j ≠ 28 → j ≠ 44 → j ≠ 45 → j ≠ 46 → j ≠ 47 → j ≠ 48 → j ≠ 49 → j ≠ 50 → j ≠ 30 → j ≠ 31 → j ≠ 32 → j ≠ 33 → j ≠ 34 → j ≠ 35 → j ≠ 36 → j ≠ 37 → j ≠ 38 → j ≠ 39 → j ≠ 40 → j ≠ 41 → j ≠ 42 → j ≠ 43 → M_60 j = M_2 j := hF_113
  have hF_171 : ∀ j : Nat, j ≠ 0 → j ≠ 1 → j ≠ 2 → j ≠ 3 → j ≠ 4 → j ≠ 5 → j ≠ 6 → j ≠ 7 → j ≠ 8 → j ≠ 9 → j ≠ 10 → j ≠ 11 → j ≠ 12 → j ≠ 13 → j ≠ 14 → j ≠ 15 → j ≠ 16 → j ≠ 17 → j ≠ 19 → j ≠ 20 → j ≠ 21 → j ≠ 22 → j ≠ 23 → j ≠ 24 → j ≠ 25 → j ≠ 26 → j ≠ 27 → j ≠ 28 → j ≠ 44 → j ≠ 45 → j ≠ 46 → j ≠ 47 → j ≠ 48 → j ≠ 49 → j ≠ 50 → j ≠ 30 → j ≠ 31 → j ≠ 32 → j ≠ 33 → j ≠ 34 → j ≠ 35 → j ≠ 36 → j ≠ 37 → j ≠ 38 → j ≠ 39 → j ≠ 40 → j ≠ 41 → j ≠ 42 → j ≠ 43 → M_60 j = M j := fun j q0 q1 q2 q3 q4 q5 q6 q7 q8 q9 q10 q11 q12 q13 q14 q15 q16 q17 q18 q19 q20 q21 q22 q23 q24 q25 q26 q27 q28 q29 q30 q31 q32 q33 q34 q35 q36 q37 q38 q39 q40 q41 q42 q43 q44 q45 q46 q47 q48 => (hF_170 j q0 q1 q2 q3 q4 q5 q6 q7 q8 q9 q10 q11 q12 q13 q14 q15 q16 q17 q18 q19 q20 q21 q22 q23 q24 q25 q26 q27 q28 q29 q30 q31 q32 q33 q34 q35 q36 q37 q38 q39 q40 q41 q42 q43 q44 q45 q46 q47 q48).trans (hF_57 j q0)
  clear hF_57 hF_113
  refine n_eqs (show ([.ref (ad_1 0)] : List Value) = [.ref (ad_63 0)] from by rw [hAd_169 0 (by decide) (by decide) (by decide) (by decide) (by decide) (by decide) (by decide) (by decide) (by decide) (by decide) (by decide) (by decide) (by decide) (by decide) (by decide) (by decide) (by decide) (by decide) (by decide) (by decide) (by decide) (by decide) (by decide) (by decide) (by decide) (by decide) (by decide) (by decide) (by decide) (by decide) (by decide) (by decide) (by decide) (by decide) (by decide) (by decide) (by decide) (by decide) (by decide) (by decide) (by decide) (by decide) (by decide) (by decide) (by decide) (by decide) (by decide) (by decide)]) ?_
  refine lv_astore_n (lv' := [(1, .ref (ad_63 0)), (0, .ref b)]) hx hb dL_law_7 rfl hl (by decide) rfl (fun ls hl => ?_)
  exact kk ad_63 M_60 H_61 locs_62 ls mo_116 ho_117 hg_118 lst_119 hP_115 hm_120 hm_121 hm_122 hm_123 hm_124 hm_125 hm_126 hm_127 hm_128 hm_129 hm_130 hm_131 hm_132 hm_133 hm_134 hm_135 hm_136 hm_137 hm_138 hm_139 hm_140 hm_141 hm_142 hm_143 hm_144 hm_145 hm_146 hm_147 hm_155 hm_156 hm_157 hm_158 hm_159 hm_160 hm_161 hm_162 hm_163 hm_164 hm_165 hm_166 hm_167 hm_168 hm_148 hm_149 hm_150 hm_151 hm_152 hm_153 hm_154 (fun j9 h9 => (hF_171 j9 (Nat.ne_of_gt (Nat.lt_of_lt_of_le (show (0 : Nat) < 51 by decide) h9)) (Nat.ne_of_gt (Nat.lt_of_lt_of_le (show (1 : Nat) < 51 by decide) h9)) (Nat.ne_of_gt (Nat.lt_of_lt_of_le (show (2 : Nat) < 51 by decide) h9)) (Nat.ne_of_gt (Nat.lt_of_lt_of_le (show (3 : Nat) < 51 by decide) h9)) (Nat.ne_of_gt (Nat.lt_of_lt_of_le (show (4 : Nat) < 51 by decide) h9)) (Nat.ne_of_gt (Nat.lt_of_lt_of_le (show (5 : Nat) < 51 by decide) h9)) (Nat.ne_of_gt (Nat.lt_of_lt_of_le (show (6 : Nat) < 51 by decide) h9)) (Nat.ne_of_gt (Nat.lt_of_lt_of_le (show (7 : Nat) < 51 by decide) h9)) (Nat.ne_of_gt (Nat.lt_of_lt_of_le (show (8 : Nat) < 51 by decide) h9)) (Nat.ne_of_gt (Nat.lt_of_lt_of_le (show (9 : Nat) < 51 by decide) h9)) (Nat.ne_of_gt (Nat.lt_of_lt_of_le (show (10 : Nat) < 51 by decide) h9)) (Nat.ne_of_gt (Nat.lt_of_lt_of_le (show (11 : Nat) < 51 by decide) h9)) (Nat.ne_of_gt (Nat.lt_of_lt_of_le (show (12 : Nat) < 51 by decide) h9)) (Nat.ne_of_gt (Nat.lt_of_lt_of_le (show (13 : Nat) < 51 by decide) h9)) (Nat.ne_of_gt (Nat.lt_of_lt_of_le (show (14 : Nat) < 51 by decide) h9)) (Nat.ne_of_gt (Nat.lt_of_lt_of_le (show (15 : Nat) < 51 by decide) h9)) (Nat.ne_of_gt (Nat.lt_of_lt_of_le (show (16 : Nat) < 51 by decide) h9)) (Nat.ne_of_gt (Nat.lt_of_lt_of_le (show (17 : Nat) < 51 by decide) h9)) (Nat.ne_of_gt (Nat.lt_of_lt_of_le (show (19 : Nat) < 51 by decide) h9)) (Nat.ne_of_gt (Nat.lt_of_lt_of_le (show (20 : Nat) < 51 by decide) h9)) (Nat.ne_of_gt (Nat.lt_of_lt_of_le (show (21 : Nat) < 51 by decide) h9)) (Nat.ne_of_gt (Nat.lt_of_lt_of_le (show (22 : Nat) < 51 by decide) h9)) (Nat.ne_of_gt (Nat.lt_of_lt_of_le (show (23 : Nat) < 51 by decide) h9)) (Nat.ne_of_gt (Nat.lt_of_lt_of_le (show (24 : Nat) < 51 by decide) h9)) (Nat.ne_of_gt (Nat.lt_of_lt_of_le (show (25 : Nat) < 51 by decide) h9)) (Nat.ne_of_gt (Nat.lt_of_lt_of_le (show (26 : Nat) < 51 by decide) h9)) (Nat.ne_of_gt (Nat.lt_of_lt_of_le (show (27 : Nat) < 51 by decide) h9)) (Nat.ne_of_gt (Nat.lt_of_lt_of_le (show (28 : Nat) < 51 by decide) h9)) (Nat.ne_of_gt (Nat.lt_of_lt_of_le (show (44 : Nat) < 51 by decide) h9)) (Nat.ne_of_gt (Nat.lt_of_lt_of_le (show (45 : Nat) < 51 by decide) h9)) (Nat.ne_of_gt (Nat.lt_of_lt_of_le (show (46 : Nat) < 51 by decide) h9)) (Nat.ne_of_gt (Nat.lt_of_lt_of_le (show (47 : Nat) < 51 by decide) h9)) (Nat.ne_of_gt (Nat.lt_of_lt_of_le (show (48 : Nat) < 51 by decide) h9)) (Nat.ne_of_gt (Nat.lt_of_lt_of_le (show (49 : Nat) < 51 by decide) h9)) (Nat.ne_of_gt (Nat.lt_of_lt_of_le (show (50 : Nat) < 51 by decide) h9)) (Nat.ne_of_gt (Nat.lt_of_lt_of_le (show (30 : Nat) < 51 by decide) h9)) (Nat.ne_of_gt (Nat.lt_of_lt_of_le (show (31 : Nat) < 51 by decide) h9)) (Nat.ne_of_gt (Nat.lt_of_lt_of_le (show (32 : Nat) < 51 by decide) h9)) (Nat.ne_of_gt (Nat.lt_of_lt_of_le (show (33 : Nat) < 51 by decide) h9)) (Nat.ne_of_gt (Nat.lt_of_lt_of_le (show (34 : Nat) < 51 by decide) h9)) (Nat.ne_of_gt (Nat.lt_of_lt_of_le (show (35 : Nat) < 51 by decide) h9)) (Nat.ne_of_gt (Nat.lt_of_lt_of_le (show (36 : Nat) < 51 by decide) h9)) (Nat.ne_of_gt (Nat.lt_of_lt_of_le (show (37 : Nat) < 51 by decide) h9)) (Nat.ne_of_gt (Nat.lt_of_lt_of_le (show (38 : Nat) < 51 by decide) h9)) (Nat.ne_of_gt (Nat.lt_of_lt_of_le (show (39 : Nat) < 51 by decide) h9)) (Nat.ne_of_gt (Nat.lt_of_lt_of_le (show (40 : Nat) < 51 by decide) h9)) (Nat.ne_of_gt (Nat.lt_of_lt_of_le (show (41 : Nat) < 51 by decide) h9)) (Nat.ne_of_gt (Nat.lt_of_lt_of_le (show (42 : Nat) < 51 by decide) h9)) (Nat.ne_of_gt (Nat.lt_of_lt_of_le (show (43 : Nat) < 51 by decide) h9))).trans (hM0 j9)) ((hF_171 18 (by decide) (by decide) (by decide) (by decide) (by decide) (by decide) (by decide) (by decide) (by decide) (by decide) (by decide) (by decide) (by decide) (by decide) (by decide) (by decide) (by decide) (by decide) (by decide) (by decide) (by decide) (by decide) (by decide) (by decide) (by decide) (by decide) (by decide) (by decide) (by decide) (by decide) (by decide) (by decide) (by decide) (by decide) (by decide) (by decide) (by decide) (by decide) (by decide) (by decide) (by decide) (by decide) (by decide) (by decide) (by decide) (by decide) (by decide) (by decide) (by decide)).trans (hM0 18)) ((hF_171 29 (by decide) (by decide) (by decide) (by decide) (by decide) (by decide) (by decide) (by decide) (by decide) (by decide) (by decide) (by decide) (by decide) (by decide) (by decide) (by decide) (by decide) (by decide) (by decide) (by decide) (by decide) (by decide) (by decide) (by decide) (by decide) (by decide) (by decide) (by decide) (by decide) (by decide) (by decide) (by decide) (by decide) (by decide) (by decide) (by decide) (by decide) (by decide) (by decide) (by decide) (by decide) (by decide) (by decide) (by decide) (by decide) (by decide) (by decide) (by decide) (by decide)).trans (hM0 29)) hI (lv_sub hl [1, 0] rfl)
