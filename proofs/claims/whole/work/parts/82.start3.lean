set_option maxHeartbeats 8000000 in
set_option maxRecDepth 100000 in
theorem start_3 {p : Program} {l : Launch} {e : Env} {s : State} {m : MethodId} {below : List Frame} {meth : Method} {c : Code} {b L : Nat} {xs : Nat → Int32} {G : GG} (hst : l.stackTraces = false) (hx : p.tables.exec = Jvm.exec) (hb : c.code = code) (hr : meth.sig.returnType = ret) (hlocks : meth.locks = false) (hml : c.maxLocals = 7) (hown : s.vm.findClass RL = some m.cls) {cx : Cond} (hts : ∀ w ∈ cx :: lwg, w.before #[Value.ref b] s = true) (hX : va_X b L xs s s.heap) (hbl : b < s.heap.size) (hL : L ≤ 3072) {ad : Nat → Nat} {M : Mem} {mo : Nat → Nat} {ho : Nat → Bool} {hg lst : Nat → Nat} {ad1 : Nat → Nat} {M1 : Mem} {H1 : Heap} {locs1 : List Loc} {ls1 : Array Slot} {mo2 : Nat → Nat} {ho2 : Nat → Bool} {l2 : Nat → Nat}
 (pa : (((∀ i, i < 36 → mo i = 6) ∧ ∀ i, i < 6 → ho i = true) ∧ ∀ t, t < 40 → hg t = t ∧ lst t = t)) (g_0 : M 0 = some (cStore ad 30 37 (-1))) (g_1 : M 1 = some (cTape ad 0)) (g_2 : M 2 = some (aI G 400 (nF (fun _ => 0)))) (g_3 : M 3 = some (cLaws ad )) (g_4 : M 4 = some (aI G 36 (nF (fun _ => 0)))) (g_5 : M 5 = some (aI G 36 (nF mo))) (g_6 : M 6 = some (aI G 36 (nF (fun _ => 0)))) (g_7 : M 7 = some (aZ G 6 (bF ho))) (g_8 : M 8 = some (cOnes ad 0)) (g_9 : M 9 = some (aI G 40 (nF hg))) (g_10 : M 10 = some (aI G 40 (nF lst))) (g_11 : M 11 = some (aI G 40 (nF (fun _ => 0)))) (g_12 : M 12 = some (cEnds ad 12 0)) (g_13 : M 13 = some (aI G 6 (nF (fun _ => 0)))) (g_14 : M 14 = some (aI G 6 (nF (fun _ => 0)))) (g_15 : M 15 = some (aI G 6 (nF (fun _ => 0)))) (g_16 : M 16 = some (cLines ad )) (g_17 : M 17 = some (cList ad (nI 0) G.2.2.2.2 0)) (g_19 : M 19 = some (aZ G 120 (bF (fun _ => false)))) (g_20 : M 20 = some (aI G 120 (nF (fun _ => 0)))) (g_21 : M 21 = some (aI G 120 (nF (fun _ => 0)))) (g_22 : M 22 = some (cReader ad 0 0 (nI 0) (nI 0))) (g_23 : M 23 = some (cMatcher ad 44 0)) (g_24 : M 24 = some (aJ G 2160 (fun _ => 0))) (g_25 : M 25 = some (aI G 6 (nF (fun _ => 0)))) (g_26 : M 26 = some (aJ G 240 (fun _ => 0))) (g_27 : M 27 = some (aJ G 3 (fun _ => 0))) (g_28 : M 28 = some (aI G 3 (nF (fun _ => 0)))) (g_30 : M 30 = some (cQuestion ad 30 0 0)) (g_31 : M 31 = some (aI G 6 (nF (fun _ => 0)))) (g_32 : M 32 = some (aZ G 6 (bF (fun _ => false)))) (g_33 : M 33 = some (aI G 6 (nF (fun _ => 0)))) (g_34 : M 34 = some (aI G 6 (nF (fun _ => 0)))) (g_35 : M 35 = some (aI G 24 (nF (fun _ => 0)))) (g_36 : M 36 = some (aI G 24 (nF (fun _ => 0)))) (g_37 : M 37 = some (cQuestion ad 37 0 0)) (g_38 : M 38 = some (aI G 6 (nF (fun _ => 0)))) (g_39 : M 39 = some (aZ G 6 (bF (fun _ => false)))) (g_40 : M 40 = some (aI G 6 (nF (fun _ => 0)))) (g_41 : M 41 = some (aI G 6 (nF (fun _ => 0)))) (g_42 : M 42 = some (aI G 24 (nF (fun _ => 0)))) (g_43 : M 43 = some (aI G 24 (nF (fun _ => 0)))) (g_44 : M 44 = some (cQuestion ad 44 0 0)) (g_45 : M 45 = some (aI G 6 (nF (fun _ => 0)))) (g_46 : M 46 = some (aZ G 6 (bF (fun _ => false)))) (g_47 : M 47 = some (aI G 6 (nF (fun _ => 0)))) (g_48 : M 48 = some (aI G 6 (nF (fun _ => 0)))) (g_49 : M 49 = some (aI G 24 (nF (fun _ => 0)))) (g_50 : M 50 = some (aI G 24 (nF (fun _ => 0)))) (h18 : M 18 = none) (h29 : M 29 = none)
 (pb : (((∀ i, i < 36 → mo2 i = 6) ∧ ∀ i, i < 6 → ho2 i = true) ∧ ∀ t, t < 40 → l2 t = t)) (g_60 : M1 60 = some (cModel ad1 0 0 0 0 0 0 0 0 0 0 (-1))) (g_61 : M1 61 = some (aI G 36 (nF (fun _ => 0)))) (g_62 : M1 62 = some (aI G 36 (nF mo2))) (g_63 : M1 63 = some (aI G 36 (nF (fun _ => 0)))) (g_64 : M1 64 = some (aZ G 6 (bF ho2))) (g_65 : M1 65 = some (aI G 120 (nF (fun _ => 0)))) (g_66 : M1 66 = some (aI G 120 (nF (fun _ => 0)))) (g_67 : M1 67 = some (aI G 120 (nF (fun _ => 0)))) (g_68 : M1 68 = some (aI G 121 (nF (fun _ => 0)))) (g_69 : M1 69 = some (aI G 726 (nF (fun _ => 0)))) (g_70 : M1 70 = some (aI G 726 (nF (fun _ => 0)))) (g_71 : M1 71 = some (aI G 40 (nF l2))) (g_72 : M1 72 = some (aI G 40 (nF (fun _ => 0)))) (g_73 : M1 73 = some (aI G 40 (nF (fun _ => 0)))) (g_74 : M1 74 = some (aI G 120 (nF (fun _ => 0)))) (g_75 : M1 75 = some (aI G 12 (nF (fun _ => 0)))) (g_76 : M1 76 = some (aZ G 12 (bF (fun _ => false)))) (g_77 : M1 77 = some (aI G 12 (nF (fun _ => 0)))) (g_78 : M1 78 = some (aI G 48 (nF (fun _ => 0)))) (g_79 : M1 79 = some (aI G 48 (nF (fun _ => 0)))) (g_80 : M1 80 = some (aB G 400 (fun _ => 0))) (g_81 : M1 81 = some (aI G 5 (nF (fun _ => 0)))) (g_82 : M1 82 = some (aZ G 384000 (bF (fun _ => false)))) (g_83 : M1 83 = some (aI G 3 (nF (fun _ => 0)))) (g_84 : M1 84 = some (aI G 3 (nF (fun _ => 0)))) (g_85 : M1 85 = some (aZ G 40 (bF (fun _ => false)))) (g_86 : M1 86 = some (aZ G 120 (bF (fun _ => false)))) (g_87 : M1 87 = some (aZ G 120 (bF (fun _ => false)))) (g_99 : M1 99 = some (aJ G 1 (fun _ => 0))) (hFr : ∀ j, j < 60 → M1 j = M j) (hAd : ∀ j, j < 60 → ad1 j = ad j) (hN : ∀ j, 100 ≤ j → M1 j = none) (hI : Iv G s.heap.size ad1 M1 s H1 locs1) (hl : lv_has ls1 7 [(0, .ref b), (1, .ref (ad1 0)), (2, .ref (ad1 60)), (3, .ref (ad1 99)), (4, .int (nI 0))])
 : W p l e room_1 s m #[Value.ref b] below meth c H1 locs1 78 390855 (lw_Z below #[Value.ref b] s) (F0 m 23 ls1 []) := by
  obtain ⟨M9, hI9, e62, e64, e71, hF9⟩ := iv_cg3 (g1 := mo) (g2 := ho) (g3 := lst) hI g_62 (fun j9 h9 => by rw [pb.1.1 j9 h9, pa.1.1 j9 h9]) g_64 (fun j9 h9 => by rw [pb.1.2 j9 h9, pa.1.2 j9 h9]) g_71 (fun j9 h9 => by rw [pb.2 j9 h9, (pa.2 j9 h9).2])
  have hF8 : ∀ j, j < 60 → M9 j = M j := fun j h => (hF9 j (Nat.ne_of_lt (Nat.lt_trans h (by decide))) (Nat.ne_of_lt (Nat.lt_trans h (by decide))) (Nat.ne_of_lt (Nat.lt_trans h (by decide)))).trans (hFr j h)
  have x_0 : M9 0 = some (cStore ad1 30 37 (-1)) := (hF8 0 (by decide)).trans (by rw [g_0]; simp only [cStore, hAd 1 (by decide), hAd 3 (by decide), hAd 8 (by decide), hAd 12 (by decide), hAd 16 (by decide), hAd 22 (by decide), hAd 23 (by decide), hAd 30 (by decide), hAd 37 (by decide)])
  have x_1 : M9 1 = some (cTape ad1 0) := (hF8 1 (by decide)).trans (by rw [g_1]; simp only [cTape, hAd 2 (by decide)])
  have x_2 : M9 2 = some (aI G 400 (nF (fun _ => 0))) := (hF8 2 (by decide)).trans g_2
  have x_3 : M9 3 = some (cLaws ad1 ) := (hF8 3 (by decide)).trans (by rw [g_3]; simp only [cLaws, hAd 4 (by decide), hAd 5 (by decide), hAd 6 (by decide), hAd 7 (by decide)])
  have x_4 : M9 4 = some (aI G 36 (nF (fun _ => 0))) := (hF8 4 (by decide)).trans g_4
  have x_5 : M9 5 = some (aI G 36 (nF mo)) := (hF8 5 (by decide)).trans g_5
  have x_6 : M9 6 = some (aI G 36 (nF (fun _ => 0))) := (hF8 6 (by decide)).trans g_6
  have x_7 : M9 7 = some (aZ G 6 (bF ho)) := (hF8 7 (by decide)).trans g_7
  have x_8 : M9 8 = some (cOnes ad1 0) := (hF8 8 (by decide)).trans (by rw [g_8]; simp only [cOnes, hAd 9 (by decide), hAd 10 (by decide), hAd 11 (by decide)])
  have x_9 : M9 9 = some (aI G 40 (nF hg)) := (hF8 9 (by decide)).trans g_9
  have x_10 : M9 10 = some (aI G 40 (nF lst)) := (hF8 10 (by decide)).trans g_10
  have x_11 : M9 11 = some (aI G 40 (nF (fun _ => 0))) := (hF8 11 (by decide)).trans g_11
  have x_12 : M9 12 = some (cEnds ad1 12 0) := (hF8 12 (by decide)).trans (by rw [g_12]; simp only [cEnds, hAd 13 (by decide), hAd 14 (by decide), hAd 15 (by decide)])
  have x_13 : M9 13 = some (aI G 6 (nF (fun _ => 0))) := (hF8 13 (by decide)).trans g_13
  have x_14 : M9 14 = some (aI G 6 (nF (fun _ => 0))) := (hF8 14 (by decide)).trans g_14
  have x_15 : M9 15 = some (aI G 6 (nF (fun _ => 0))) := (hF8 15 (by decide)).trans g_15
  have x_16 : M9 16 = some (cLines ad1 ) := (hF8 16 (by decide)).trans (by rw [g_16]; simp only [cLines, hAd 17 (by decide), hAd 19 (by decide), hAd 20 (by decide), hAd 21 (by decide)])
  have x_17 : M9 17 = some (cList ad1 (nI 0) G.2.2.2.2 0) := (hF8 17 (by decide)).trans g_17
  have x_19 : M9 19 = some (aZ G 120 (bF (fun _ => false))) := (hF8 19 (by decide)).trans g_19
  have x_20 : M9 20 = some (aI G 120 (nF (fun _ => 0))) := (hF8 20 (by decide)).trans g_20
  have x_21 : M9 21 = some (aI G 120 (nF (fun _ => 0))) := (hF8 21 (by decide)).trans g_21
  have x_22 : M9 22 = some (cReader ad1 0 0 (nI 0) (nI 0)) := (hF8 22 (by decide)).trans g_22
  have x_23 : M9 23 = some (cMatcher ad1 44 0) := (hF8 23 (by decide)).trans (by rw [g_23]; simp only [cMatcher, hAd 24 (by decide), hAd 25 (by decide), hAd 26 (by decide), hAd 27 (by decide), hAd 28 (by decide), hAd 44 (by decide)])
  have x_24 : M9 24 = some (aJ G 2160 (fun _ => 0)) := (hF8 24 (by decide)).trans g_24
  have x_25 : M9 25 = some (aI G 6 (nF (fun _ => 0))) := (hF8 25 (by decide)).trans g_25
  have x_26 : M9 26 = some (aJ G 240 (fun _ => 0)) := (hF8 26 (by decide)).trans g_26
  have x_27 : M9 27 = some (aJ G 3 (fun _ => 0)) := (hF8 27 (by decide)).trans g_27
  have x_28 : M9 28 = some (aI G 3 (nF (fun _ => 0))) := (hF8 28 (by decide)).trans g_28
  have x_30 : M9 30 = some (cQuestion ad1 30 0 0) := (hF8 30 (by decide)).trans (by rw [g_30]; simp only [cQuestion, hAd 31 (by decide), hAd 32 (by decide), hAd 33 (by decide), hAd 34 (by decide), hAd 35 (by decide), hAd 36 (by decide)])
  have x_31 : M9 31 = some (aI G 6 (nF (fun _ => 0))) := (hF8 31 (by decide)).trans g_31
  have x_32 : M9 32 = some (aZ G 6 (bF (fun _ => false))) := (hF8 32 (by decide)).trans g_32
  have x_33 : M9 33 = some (aI G 6 (nF (fun _ => 0))) := (hF8 33 (by decide)).trans g_33
  have x_34 : M9 34 = some (aI G 6 (nF (fun _ => 0))) := (hF8 34 (by decide)).trans g_34
  have x_35 : M9 35 = some (aI G 24 (nF (fun _ => 0))) := (hF8 35 (by decide)).trans g_35
  have x_36 : M9 36 = some (aI G 24 (nF (fun _ => 0))) := (hF8 36 (by decide)).trans g_36
  have x_37 : M9 37 = some (cQuestion ad1 37 0 0) := (hF8 37 (by decide)).trans (by rw [g_37]; simp only [cQuestion, hAd 38 (by decide), hAd 39 (by decide), hAd 40 (by decide), hAd 41 (by decide), hAd 42 (by decide), hAd 43 (by decide)])
  have x_38 : M9 38 = some (aI G 6 (nF (fun _ => 0))) := (hF8 38 (by decide)).trans g_38
  have x_39 : M9 39 = some (aZ G 6 (bF (fun _ => false))) := (hF8 39 (by decide)).trans g_39
  have x_40 : M9 40 = some (aI G 6 (nF (fun _ => 0))) := (hF8 40 (by decide)).trans g_40
  have x_41 : M9 41 = some (aI G 6 (nF (fun _ => 0))) := (hF8 41 (by decide)).trans g_41
  have x_42 : M9 42 = some (aI G 24 (nF (fun _ => 0))) := (hF8 42 (by decide)).trans g_42
  have x_43 : M9 43 = some (aI G 24 (nF (fun _ => 0))) := (hF8 43 (by decide)).trans g_43
  have x_44 : M9 44 = some (cQuestion ad1 44 0 0) := (hF8 44 (by decide)).trans (by rw [g_44]; simp only [cQuestion, hAd 45 (by decide), hAd 46 (by decide), hAd 47 (by decide), hAd 48 (by decide), hAd 49 (by decide), hAd 50 (by decide)])
  have x_45 : M9 45 = some (aI G 6 (nF (fun _ => 0))) := (hF8 45 (by decide)).trans g_45
  have x_46 : M9 46 = some (aZ G 6 (bF (fun _ => false))) := (hF8 46 (by decide)).trans g_46
  have x_47 : M9 47 = some (aI G 6 (nF (fun _ => 0))) := (hF8 47 (by decide)).trans g_47
  have x_48 : M9 48 = some (aI G 6 (nF (fun _ => 0))) := (hF8 48 (by decide)).trans g_48
  have x_49 : M9 49 = some (aI G 24 (nF (fun _ => 0))) := (hF8 49 (by decide)).trans g_49
  have x_50 : M9 50 = some (aI G 24 (nF (fun _ => 0))) := (hF8 50 (by decide)).trans g_50
  have x_60 : M9 60 = some (cModel ad1 0 0 0 0 0 0 0 0 0 0 (-1)) := (hF9 60 (by decide) (by decide) (by decide)).trans g_60
  have x_61 : M9 61 = some (aI G 36 (nF (fun _ => 0))) := (hF9 61 (by decide) (by decide) (by decide)).trans g_61
  have x_63 : M9 63 = some (aI G 36 (nF (fun _ => 0))) := (hF9 63 (by decide) (by decide) (by decide)).trans g_63
  have x_65 : M9 65 = some (aI G 120 (nF (fun _ => 0))) := (hF9 65 (by decide) (by decide) (by decide)).trans g_65
  have x_66 : M9 66 = some (aI G 120 (nF (fun _ => 0))) := (hF9 66 (by decide) (by decide) (by decide)).trans g_66
  have x_67 : M9 67 = some (aI G 120 (nF (fun _ => 0))) := (hF9 67 (by decide) (by decide) (by decide)).trans g_67
  have x_68 : M9 68 = some (aI G 121 (nF (fun _ => 0))) := (hF9 68 (by decide) (by decide) (by decide)).trans g_68
  have x_69 : M9 69 = some (aI G 726 (nF (fun _ => 0))) := (hF9 69 (by decide) (by decide) (by decide)).trans g_69
  have x_70 : M9 70 = some (aI G 726 (nF (fun _ => 0))) := (hF9 70 (by decide) (by decide) (by decide)).trans g_70
  have x_72 : M9 72 = some (aI G 40 (nF (fun _ => 0))) := (hF9 72 (by decide) (by decide) (by decide)).trans g_72
  have x_73 : M9 73 = some (aI G 40 (nF (fun _ => 0))) := (hF9 73 (by decide) (by decide) (by decide)).trans g_73
  have x_74 : M9 74 = some (aI G 120 (nF (fun _ => 0))) := (hF9 74 (by decide) (by decide) (by decide)).trans g_74
  have x_75 : M9 75 = some (aI G 12 (nF (fun _ => 0))) := (hF9 75 (by decide) (by decide) (by decide)).trans g_75
  have x_76 : M9 76 = some (aZ G 12 (bF (fun _ => false))) := (hF9 76 (by decide) (by decide) (by decide)).trans g_76
  have x_77 : M9 77 = some (aI G 12 (nF (fun _ => 0))) := (hF9 77 (by decide) (by decide) (by decide)).trans g_77
  have x_78 : M9 78 = some (aI G 48 (nF (fun _ => 0))) := (hF9 78 (by decide) (by decide) (by decide)).trans g_78
  have x_79 : M9 79 = some (aI G 48 (nF (fun _ => 0))) := (hF9 79 (by decide) (by decide) (by decide)).trans g_79
  have x_80 : M9 80 = some (aB G 400 (fun _ => 0)) := (hF9 80 (by decide) (by decide) (by decide)).trans g_80
  have x_81 : M9 81 = some (aI G 5 (nF (fun _ => 0))) := (hF9 81 (by decide) (by decide) (by decide)).trans g_81
  have x_82 : M9 82 = some (aZ G 384000 (bF (fun _ => false))) := (hF9 82 (by decide) (by decide) (by decide)).trans g_82
  have x_83 : M9 83 = some (aI G 3 (nF (fun _ => 0))) := (hF9 83 (by decide) (by decide) (by decide)).trans g_83
  have x_84 : M9 84 = some (aI G 3 (nF (fun _ => 0))) := (hF9 84 (by decide) (by decide) (by decide)).trans g_84
  have x_85 : M9 85 = some (aZ G 40 (bF (fun _ => false))) := (hF9 85 (by decide) (by decide) (by decide)).trans g_85
  have x_86 : M9 86 = some (aZ G 120 (bF (fun _ => false))) := (hF9 86 (by decide) (by decide) (by decide)).trans g_86
  have x_87 : M9 87 = some (aZ G 120 (bF (fun _ => false))) := (hF9 87 (by decide) (by decide) (by decide)).trans g_87
  have x_99 : M9 99 = some (aJ G 1 (fun _ => 0)) := (hF9 99 (by decide) (by decide) (by decide)).trans g_99
  clear g_0 g_1 g_2 g_3 g_4 g_5 g_6 g_7 g_8 g_9 g_10 g_11 g_12 g_13 g_14 g_15 g_16 g_17 g_19 g_20 g_21 g_22 g_23 g_24 g_25 g_26 g_27 g_28 g_30 g_31 g_32 g_33 g_34 g_35 g_36 g_37 g_38 g_39 g_40 g_41 g_42 g_43 g_44 g_45 g_46 g_47 g_48 g_49 g_50 g_60 g_61 g_62 g_63 g_64 g_65 g_66 g_67 g_68 g_69 g_70 g_71 g_72 g_73 g_74 g_75 g_76 g_77 g_78 g_79 g_80 g_81 g_82 g_83 g_84 g_85 g_86 g_87 g_99
  have y_fL : LSm G ad1 M9 (0 : Nat) (fun _ => 0 : Nat → Nat) (fun _ => 0 : Nat → Int32) (fun _ => 0 : Nat → Int32) (fun _ => 0 : Nat → Nat) (fun _ _ => 0 : Nat → Nat → Nat) (fun _ _ => 0 : Nat → Nat → Nat) := ⟨x_16, ⟨nI 0, G.2.2.2.2, x_17, fun h9 => absurd h9 (Nat.lt_irrefl 0)⟩, fun i9 h9 => absurd h9 (Nat.not_lt_zero i9)⟩
  have y_w1 : LSw (0 : Nat) (fun _ => 0 : Nat → Nat) (fun _ => 0 : Nat → Nat) (fun _ _ => 0 : Nat → Nat → Nat) (fun _ _ => 0 : Nat → Nat → Nat) := ⟨by decide, fun i9 h9 => absurd h9 (Nat.not_lt_zero i9)⟩
  have y_w2 : MRel (0 : Nat) (fun _ => 0 : Nat → Nat) (fun _ => 0 : Nat → Int32) (fun _ => 0 : Nat → Int32) (fun _ => 0 : Nat → Nat) (fun _ _ => 0 : Nat → Nat → Nat) (fun _ _ => 0 : Nat → Nat → Nat) ((fun _ => 0) : Nat → Nat) (nF (fun _ => 0) : Nat → Int32) (nF (fun _ => 0) : Nat → Int32) ((fun _ => 0) : Nat → Nat) ((fun _ => 0) : Nat → Nat) ((fun _ => 0) : Nat → Nat) := fun i9 h9 => absurd h9 (Nat.not_lt_zero i9)
  have y_w3 : JI (0 : Nat) (hg : Nat → Nat) (lst : Nat → Nat) ((fun _ => 0) : Nat → Nat) ((fun _ => 0) : Nat → Nat) ((fun _ => 0) : Nat → Nat) := ji_0 pa.2
  have y_w4 : (0 : Nat) ≤ 400 := by decide
  have y_w5 : ∀ j, j < (0 : Nat) → ((fun _ => 0) : Nat → Nat) j < 256 := fun i9 h9 => absurd h9 (Nat.not_lt_zero i9)
  have y_w6 : ∀ j, j < (0 : Nat) → (fun _ => 0 : Nat → Int32) j = sB (((fun _ => 0) : Nat → Nat) j) := fun i9 h9 => absurd h9 (Nat.not_lt_zero i9)
  have y_w7 : (0 : Nat) ≤ 6 := by decide
  have y_w8 : ((fun _ => 0) : Nat → Nat) 120 = (0 : Nat) := rfl
  have y_w9 : ∀ j, j < (0 : Nat) → ((fun _ => 0) : Nat → Nat) (720 + j) = ((fun _ => 0) : Nat → Nat) j ∧ ((fun _ => 0) : Nat → Nat) (720 + j) = (fun _ => 0 : Nat → Nat) j := fun i9 h9 => absurd h9 (Nat.not_lt_zero i9)
  have y_w10 : ∀ j, j < (0 : Nat) → ((fun _ => 0) : Nat → Nat) j < 6 := fun i9 h9 => absurd h9 (Nat.not_lt_zero i9)
  have y_w11 : ∀ j, j < (0 : Nat) → (fun _ => 0 : Nat → Nat) j < 40 + (0 : Nat) := fun i9 h9 => absurd h9 (Nat.not_lt_zero i9)
  have y_w12 : ∀ j, j < (0 : Nat) → (fun _ => some 0 : Nat → Option Nat) j = thE (fun _ => 0 : Nat → Nat) j := fun i9 h9 => absurd h9 (Nat.not_lt_zero i9)
  have y_w13 : ∀ j, j < (0 : Nat) → (fun _ => some 0 : Nat → Option Nat) j = olE (fun _ => 0 : Nat → Nat) j := fun i9 h9 => absurd h9 (Nat.not_lt_zero i9)
  have y_w14 : ∀ j, j < 36 → ((fun _ => 0) : Nat → Nat) j < 100 := fun _ _ => (show (0 : Nat) < 100 by decide)
  have y_w15 : ∀ j, j < 36 → (mo : Nat → Nat) j < 100 := fun j9 h9 => by rw [pa.1.1 j9 h9]; decide
  have y_w16 : ∀ j, j < 36 → ((fun _ => 0) : Nat → Nat) j ≤ 100 := fun _ _ => (show (0 : Nat) ≤ 100 by decide)
  have y_w17 : ∀ i, i < (0 : Nat) → (0 : Int32) ≤ (fun _ => 0 : Nat → Int32) i := fun i9 h9 => absurd h9 (Nat.not_lt_zero i9)
  have y_w18 : ∀ i, i < (0 : Nat) → ∀ k, hgs (fun _ => 0 : Nat → Nat) (fun _ _ => 0 : Nat → Nat → Nat) i k = true → (fun _ => 0 : Nat → Int32) k ≤ (fun _ => 0 : Nat → Int32) i := fun i9 h9 => absurd h9 (Nat.not_lt_zero i9)
  have y_w19 : (0 : Nat) ≤ 6 := by decide
  have y_w20 : (0 : Nat) < 8 := by decide
  have y_w21 : ∀ i, i < (0 : Nat) → ((fun _ => 0) : Nat → Nat) i ≤ 4 ∧ ((nF (fun _ => 0) : Nat → Int32) i = nI (((fun _ => 0) : Nat → Nat) i) ∧ ((fun _ => 0) : Nat → Nat) i < 6) ∧ ∀ p8, p8 < ((fun _ => 0) : Nat → Nat) i → ((nF (fun _ => 0) : Nat → Int32) (4 * i + p8) = nI (((fun _ => 0) : Nat → Nat) (i * 4 + p8)) ∧ ((fun _ => 0) : Nat → Nat) (i * 4 + p8) < 6) ∧ ((fun _ => 0) : Nat → Nat) (i * 4 + p8) < 43 ∧ (nF (fun _ => 0) : Nat → Int32) (4 * i + p8) = tmI (((fun _ => 0) : Nat → Nat) (i * 4 + p8)) := fun i9 h9 => absurd h9 (Nat.not_lt_zero i9)
  have y_w22 : ∀ i, i < (0 : Nat) → ((fun _ => false) : Nat → Bool) i = ((fun _ => false) : Nat → Bool) i ∧ ((fun _ => 0) : Nat → Nat) i = ((fun _ => 0) : Nat → Nat) i := fun i9 h9 => absurd h9 (Nat.not_lt_zero i9)
  have y_w23 : ∀ i, i < (0 : Nat) → ((fun _ => 0) : Nat → Nat) i < 8 := fun i9 h9 => absurd h9 (Nat.not_lt_zero i9)
  have y_w24 : ∀ i, i < (0 : Nat) → (((fun _ => 0) : Nat → Nat) i).testBit 0 = false → ∀ p9, p9 < ((fun _ => 0) : Nat → Nat) i → ((fun _ => 0) : Nat → Nat) (i * 4 + p9) ≠ 40 := fun i9 h9 => absurd h9 (Nat.not_lt_zero i9)
  have y_w25 : ∀ v, v < 3 → (0 : Nat).testBit v = true → ∃ i, i < (0 : Nat) ∧ ((fun _ => false) : Nat → Bool) i = false ∧ ∃ k, k < ((fun _ => 0) : Nat → Nat) i ∧ ((fun _ => 0) : Nat → Nat) (i * 4 + k) = 40 + v := fun v9 _ h9 => absurd h9 (by rw [Nat.zero_testBit]; decide)
  have y_w26 : 29 < (30 : Nat) ∧ (30 : Nat) < 38 := by decide
  have y_w27 : 29 < (37 : Nat) ∧ (37 : Nat) < 38 := by decide
  have y_w28 : (30 : Nat) + 7 ≤ (37 : Nat) ∨ (37 : Nat) + 7 ≤ (30 : Nat) := Or.inl (by decide)
  have y_w29 : 29 < (44 : Nat) ∧ (44 : Nat) < 51 := by decide
  have y_w30 : (0 : Nat) = 0 → (∃ mcn : Int32, M9 17 = some (cList ad1 mcn G.2.2.2.2 0)) ∧ M9 18 = none := fun _ => ⟨⟨nI 0, x_17⟩, (hF8 18 (by decide)).trans h18⟩
  have y_w31 : M9 29 = none := (hF8 29 (by decide)).trans h29
  have y_w32 : ∀ j, 100 + 5 * (0 : Nat) ≤ j → M9 j = none := fun j9 h9 => (hF9 j9 (Nat.ne_of_gt (Nat.lt_of_lt_of_le (show (62 : Nat) < 100 by decide) h9)) (Nat.ne_of_gt (Nat.lt_of_lt_of_le (show (64 : Nat) < 100 by decide) h9)) (Nat.ne_of_gt (Nat.lt_of_lt_of_le (show (71 : Nat) < 100 by decide) h9))).trans (hN j9 h9)
  exact law_loop hst hx hb hr hlocks hml hown hts hX hbl hL 512 ad1 M9 H1 locs1 ls1 0 78 390855 0 (fun _ => 0) (fun _ => 0) (fun _ => 0) (fun _ => 0) (fun _ _ => 0) (fun _ _ => 0) 30 37 (-1) 0 (fun _ => 0) (fun _ => 0) mo (fun _ => 0) ho 0 hg lst (fun _ => 0) 0 (fun _ => 0) (fun _ => some 0) (fun _ => some 0) (fun _ => 0) (fun _ => false) (nF (fun _ => 0)) (nF (fun _ => 0)) 0 0 (nI 0) (nI 0) 44 0 (fun _ => 0) (fun _ => 0) (fun _ => 0) (fun _ => 0) (nF (fun _ => 0)) 0 0 (fun _ => 0) (fun _ => false) (fun _ => 0) (fun _ => 0) (fun _ => 0) (fun _ => 0) 0 0 (fun _ => 0) (fun _ => false) (fun _ => 0) (fun _ => 0) (fun _ => 0) (fun _ => 0) 0 0 0 0 0 (fun _ => 0) (nF (fun _ => 0)) (nF (fun _ => 0)) (fun _ => 0) (fun _ => 0) (fun _ => 0) (fun _ => 0) (fun _ => 0) (nF (fun _ => 0)) (nF (fun _ => 0)) (fun _ => false) (fun _ => 0) (nF (fun _ => 0)) (nF (fun _ => 0)) (fun _ => 0) (nF (fun _ => 0)) (fun _ => false) (fun _ => some 0) (nF (fun _ => 0)) (fun _ => false) (fun _ => false) (fun _ => false) (fun _ => 0) y_fL y_w1 y_w2 y_w3 y_w4 y_w5 y_w6 y_w7 y_w8 y_w9 y_w10 y_w11 y_w12 y_w13 y_w14 y_w15 y_w16 y_w17 y_w18 y_w19 y_w20 y_w21 y_w22 y_w23 y_w24 y_w25 y_w26 y_w27 y_w28 y_w29 y_w30 y_w31 y_w32 x_0 x_1 x_2 x_3 x_4 x_5 x_6 x_7 x_8 x_9 x_10 x_11 x_12 x_13 x_14 x_15 x_19 x_20 x_21 x_22 x_23 x_24 x_25 x_26 x_27 x_28 x_30 x_31 x_32 x_33 x_34 x_35 x_36 x_37 x_38 x_39 x_40 x_41 x_42 x_43 x_60 x_61 e62 x_63 e64 x_65 x_66 x_67 x_68 x_69 x_70 e71 x_72 x_73 x_74 x_75 x_76 x_77 x_78 x_79 x_80 x_81 x_82 x_83 x_84 x_85 x_86 x_87 x_99 hI9 hl (Nat.lt_of_le_of_lt hL (by decide)) (by decide) (by decide) (by decide)

theorem start_walk {p : Program} {l : Launch} {e : Env} {s : State} {m : MethodId} {below : List Frame} {meth : Method} {c : Code} {b L : Nat} {xs : Nat → Int32} {G : GG} (hst : l.stackTraces = false) (hx : p.tables.exec = Jvm.exec) (hb : c.code = code) (hr : meth.sig.returnType = ret) (hlocks : meth.locks = false) (hml : c.maxLocals = 7) (hown : s.vm.findClass RL = some m.cls) {cx : Cond} (hts : ∀ w ∈ cx :: lwg, w.before #[Value.ref b] s = true) (hX : va_X b L xs s s.heap) (hbl : b < s.heap.size) (hL : L ≤ 3072) {ad : Nat → Nat} {M : Mem} {ls : Array Slot} (hM0 : ∀ k, M k = none) (hI : Iv G s.heap.size ad M s s.heap []) (hl : lv_has ls 7 [(0, .ref b)]) : W p l e room_1 s m #[Value.ref b] below meth c s.heap [] 0 0 (lw_Z below #[Value.ref b] s) (F0 m 0 ls []) :=
  start_1 hst hx hb hr hlocks hml hown hts hX hbl hL hM0 hI hl (fun _ _ _ _ _ mo ho hg lst pa g_0 g_1 g_2 g_3 g_4 g_5 g_6 g_7 g_8 g_9 g_10 g_11 g_12 g_13 g_14 g_15 g_16 g_17 g_19 g_20 g_21 g_22 g_23 g_24 g_25 g_26 g_27 g_28 g_30 g_31 g_32 g_33 g_34 g_35 g_36 g_37 g_38 g_39 g_40 g_41 g_42 g_43 g_44 g_45 g_46 g_47 g_48 g_49 g_50 hN h18 h29 hI hl => start_2 hst hx hb hr hlocks hml hown hts hX hbl hL hN hI hl (fun _ _ _ _ _ mo2 ho2 l2 pb g_60 g_61 g_62 g_63 g_64 g_65 g_66 g_67 g_68 g_69 g_70 g_71 g_72 g_73 g_74 g_75 g_76 g_77 g_78 g_79 g_80 g_81 g_82 g_83 g_84 g_85 g_86 g_87 g_99 hFr hAd hN2 hI hl => start_3 hst hx hb hr hlocks hml hown hts hX hbl hL pa g_0 g_1 g_2 g_3 g_4 g_5 g_6 g_7 g_8 g_9 g_10 g_11 g_12 g_13 g_14 g_15 g_16 g_17 g_19 g_20 g_21 g_22 g_23 g_24 g_25 g_26 g_27 g_28 g_30 g_31 g_32 g_33 g_34 g_35 g_36 g_37 g_38 g_39 g_40 g_41 g_42 g_43 g_44 g_45 g_46 g_47 g_48 g_49 g_50 h18 h29 pb g_60 g_61 g_62 g_63 g_64 g_65 g_66 g_67 g_68 g_69 g_70 g_71 g_72 g_73 g_74 g_75 g_76 g_77 g_78 g_79 g_80 g_81 g_82 g_83 g_84 g_85 g_86 g_87 g_99 hFr hAd hN2 hI hl))
