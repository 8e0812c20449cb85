/-- X5_of -/
abbrev rm_c_X5_of : Room := { frames := 0, cells := 0, slots := 0, locals := 0 }
set_option maxHeartbeats 4000000 in
set_option maxRecDepth 100000 in
theorem c_X5_of (l : Launch) (G : GG) (z : Nat) (ad : Nat → Nat) (M : Mem) {jn : Nat} {lst : Nat → Nat} {t : Nat} (h8 : M 8 = some (cOnes ad jn)) (h10 : M 10 = some (aI G 40 (nF lst))) (ht : t < 40) : Met l yX5_of wsX5_of rm_c_X5_of (Pr G z ad M [.ref (ad 8), .int (nI t)]) (vp_Si (fun r : Int32 => r = nI (lst t))) 0 0 (fun _ => False) := by
  refine Met.ofW (cc := cX5_of) (maxL := 2) (ret := (some .int)) (by decide) rfl ?_
  intro p e s m args below meth c s₁ B hml hv
  obtain ⟨rfl, hv⟩ := hv
  have hI := Iv.entry hv
  have hx := B.exec
  have hb := B.bytes
  have hr := B.returns
  have hts := atoms_spec (ws := wsX5_of) B.pre
  have hown : s.vm.findClass RX5 = some m.cls := findClass_of_methodNamed B.named
  have hlocks := B.notSynchronized
  have i_RX5 : ∀ w ∈ u_ws RX5 TX5 4, w ∈ wsX5_of := fun w h => List.mem_cons_of_mem _ (iu_X5 w h)
  have f_15 := hts _ (List.mem_cons_of_mem _ (lwg_of t_82 rfl))
  have hl := lv_entry ([.ref (ad 8), .int (nI t)]) (n := 2) (Nat.le_of_ble_eq_true rfl)
  rw [lg_entry_eq]
  generalize (lg_sl ([.ref (ad 8), .int (nI t)]) ++ List.replicate (2 - (lg_sl ([.ref (ad 8), .int (nI t)])).length) Slot.unset).toArray = ls at hl ⊢
  have hl : lv_has ls 2 [(0, .ref (ad 8)), (1, .int (nI t))] := hl
  refine lv_aload_n hx hb dX5_of_0 rfl (lv_at hl 0 rfl) ?_
  refine h_get (C := RX5) (T := TX5) (N := 4) hx hb hts i_RX5 hown hI h8 rfl 1 (by decide) f_15 rfl rfl dX5_of_1 ?_
  refine lv_iload_n hx hb dX5_of_4 rfl (lv_at hl 1 rfl) ?_
  refine h_iald (i := t) hx hb hI h10 (by omega) (by decide) dX5_of_5 ?_
  exact e_Ri hx hb hr rfl hlocks (rfl) dX5_of_6

/-- X9_isIn -/
abbrev rm_c_X9_isIn : Room := { frames := 0, cells := 0, slots := 0, locals := 0 }
set_option maxHeartbeats 4000000 in
set_option maxRecDepth 100000 in
theorem c_X9_isIn (l : Launch) (G : GG) (z : Nat) (ad : Nat → Nat) (M : Mem) {x : Int64} {t : Nat}  (ht : t < 64) : Met l yX9_isIn wsX9_isIn rm_c_X9_isIn (Pr G z ad M [.long x, .int (nI t)]) (vp_Si (fun r : Int32 => r = bI (inS x t))) 0 0 (fun _ => False) := by
  refine Met.ofW (cc := cX9_isIn) (maxL := 3) (ret := (some .boolean)) (by decide) rfl ?_
  intro p e s m args below meth c s₁ B hml hv
  obtain ⟨rfl, hv⟩ := hv
  have hI := Iv.entry hv
  have hx := B.exec
  have hb := B.bytes
  have hr := B.returns
  have hts := atoms_spec (ws := wsX9_isIn) B.pre
  have hown : s.vm.findClass RX9 = some m.cls := findClass_of_methodNamed B.named
  have hlocks := B.notSynchronized
  have hl := lv_entry ([.long x, .int (nI t)]) (n := 3) (Nat.le_of_ble_eq_true rfl)
  rw [lg_entry_eq]
  generalize (lg_sl ([.long x, .int (nI t)]) ++ List.replicate (3 - (lg_sl ([.long x, .int (nI t)])).length) Slot.unset).toArray = ls at hl ⊢
  have hl : lv_has ls 3 [(0, .long x), (2, .int (nI t))] := hl
  refine lv_lload_n hx hb dX9_isIn_0 rfl (lv_at hl 0 rfl) ?_
  refine lv_iload_n hx hb dX9_isIn_1 rfl (lv_at hl 1 rfl) ?_
  refine lv_lushr (v := (x.toUInt64 >>> ((nI t).toInt64.toUInt64 &&& Int64.toUInt64 63)).toInt64) hx hb dX9_isIn_2 rfl ?_
  refine lv_lconst (v := 1) hx hb dX9_isIn_3 (by decide) ?_
  refine lv_land hx hb dX9_isIn_4 ?_
  refine lv_lconst (v := 0) hx hb dX9_isIn_5 (by decide) ?_
  refine W.lcmp hx hb dX9_isIn_6 ?_
  refine lv_if_eq (tgt := 14) hx hb dX9_isIn_7 (by decide) (fun c_1 => ?_) (fun c_1 => ?_)
  · -- 7: lg_cmp (((x.toUInt64 >>> ((nI t).toInt64.toUInt64 &&& Int64. eq
    have c_1 : ((x.toUInt64 >>> ((nI t).toInt64.toUInt64 &&& Int64.toUInt64 63)).toInt64) &&& (1 : Int64) = (0 : Int64) := (lg_cmp_eq _ _).mp c_1
    refine lv_iconst (v := nI 0) hx hb dX9_isIn_14 (by decide) ?_
    exact e_Ri hx hb hr rfl hlocks ((inS_ff ht c_1).symm) dX9_isIn_15
  · -- 7: lg_cmp (((x.toUInt64 >>> ((nI t).toInt64.toUInt64 &&& Int64. ne
    have c_1 : ((x.toUInt64 >>> ((nI t).toInt64.toUInt64 &&& Int64.toUInt64 63)).toInt64) &&& (1 : Int64) ≠ (0 : Int64) := (fun h => c_1 ((lg_cmp_eq _ _).mpr h))
    refine lv_iconst (v := nI 1) hx hb dX9_isIn_10 (by decide) ?_
    refine lv_goto (tgt := 15) hx hb dX9_isIn_11 (by decide) ?_
    exact e_Ri hx hb hr rfl hlocks ((inS_tt ht c_1).symm) dX9_isIn_15

/-- X0_size -/
abbrev rm_c_X0_size : Room := { frames := 0, cells := 0, slots := 0, locals := 0 }
set_option maxHeartbeats 4000000 in
set_option maxRecDepth 100000 in
theorem c_X0_size (l : Launch) (G : GG) (z : Nat) (ad : Nat → Nat) (M : Mem) {k : Nat} {sz : Nat} (hk : M k = some (cEnds ad k sz))  : Met l yX0_size wsX0_size rm_c_X0_size (Pr G z ad M [.ref (ad k)]) (vp_Si (fun r : Int32 => r = nI sz)) 0 0 (fun _ => False) := by
  refine Met.ofW (cc := cX0_size) (maxL := 1) (ret := (some .int)) (by decide) rfl ?_
  intro p e s m args below meth c s₁ B hml hv
  obtain ⟨rfl, hv⟩ := hv
  have hI := Iv.entry hv
  have hx := B.exec
  have hb := B.bytes
  have hr := B.returns
  have hts := atoms_spec (ws := wsX0_size) B.pre
  have hown : s.vm.findClass RX0 = some m.cls := findClass_of_methodNamed B.named
  have hlocks := B.notSynchronized
  have i_RX0 : ∀ w ∈ u_ws RX0 TX0 4, w ∈ wsX0_size := fun w h => List.mem_cons_of_mem _ (iu_X0 w h)
  have f_21 := hts _ (List.mem_cons_of_mem _ (lwg_of t_103 rfl))
  have hl := lv_entry ([.ref (ad k)]) (n := 1) (Nat.le_of_ble_eq_true rfl)
  rw [lg_entry_eq]
  generalize (lg_sl ([.ref (ad k)]) ++ List.replicate (1 - (lg_sl ([.ref (ad k)])).length) Slot.unset).toArray = ls at hl ⊢
  have hl : lv_has ls 1 [(0, .ref (ad k))] := hl
  refine lv_aload_n hx hb dX0_size_0 rfl (lv_at hl 0 rfl) ?_
  refine h_get (C := RX0) (T := TX0) (N := 4) hx hb hts i_RX0 hown hI hk rfl 3 (by decide) f_21 rfl rfl dX0_size_1 ?_
  exact e_Ri hx hb hr rfl hlocks (rfl) dX0_size_4

/-- X0_role -/
abbrev rm_c_X0_role : Room := { frames := 0, cells := 0, slots := 0, locals := 0 }
set_option maxHeartbeats 4000000 in
set_option maxRecDepth 100000 in
theorem c_X0_role (l : Launch) (G : GG) (z : Nat) (ad : Nat → Nat) (M : Mem) {k : Nat} {sz : Nat} {rl : Nat → Nat} {i : Nat} (hk : M k = some (cEnds ad k sz)) (hk1 : M (k + 1) = some (aI G 6 (nF rl))) (hi : i < 6) : Met l yX0_role wsX0_role rm_c_X0_role (Pr G z ad M [.ref (ad k), .int (nI i)]) (vp_Si (fun r : Int32 => r = nI (rl i))) 0 0 (fun _ => False) := by
  refine Met.ofW (cc := cX0_role) (maxL := 2) (ret := (some .int)) (by decide) rfl ?_
  intro p e s m args below meth c s₁ B hml hv
  obtain ⟨rfl, hv⟩ := hv
  have hI := Iv.entry hv
  have hx := B.exec
  have hb := B.bytes
  have hr := B.returns
  have hts := atoms_spec (ws := wsX0_role) B.pre
  have hown : s.vm.findClass RX0 = some m.cls := findClass_of_methodNamed B.named
  have hlocks := B.notSynchronized
  have i_RX0 : ∀ w ∈ u_ws RX0 TX0 4, w ∈ wsX0_role := fun w h => List.mem_cons_of_mem _ (iu_X0 w h)
  have f_9 := hts _ (List.mem_cons_of_mem _ (lwg_of t_100 rfl))
  have hl := lv_entry ([.ref (ad k), .int (nI i)]) (n := 2) (Nat.le_of_ble_eq_true rfl)
  rw [lg_entry_eq]
  generalize (lg_sl ([.ref (ad k), .int (nI i)]) ++ List.replicate (2 - (lg_sl ([.ref (ad k), .int (nI i)])).length) Slot.unset).toArray = ls at hl ⊢
  have hl : lv_has ls 2 [(0, .ref (ad k)), (1, .int (nI i))] := hl
  refine lv_aload_n hx hb dX0_role_0 rfl (lv_at hl 0 rfl) ?_
  refine h_get (C := RX0) (T := TX0) (N := 4) hx hb hts i_RX0 hown hI hk rfl 0 (by decide) f_9 rfl rfl dX0_role_1 ?_
  refine lv_iload_n hx hb dX0_role_4 rfl (lv_at hl 1 rfl) ?_
  refine h_iald (i := i) hx hb hI hk1 (by omega) (by decide) dX0_role_5 ?_
  exact e_Ri hx hb hr rfl hlocks (rfl) dX0_role_6

/-- X0_thing -/
abbrev rm_c_X0_thing : Room := { frames := 0, cells := 0, slots := 0, locals := 0 }
set_option maxHeartbeats 4000000 in
set_option maxRecDepth 100000 in
theorem c_X0_thing (l : Launch) (G : GG) (z : Nat) (ad : Nat → Nat) (M : Mem) {k : Nat} {sz : Nat} {th : Nat → Option Nat} {i : Nat} (hk : M k = some (cEnds ad k sz)) (hk2 : M (k + 2) = some (aI G 6 (oF th))) (hi : i < 6) : Met l yX0_thing wsX0_thing rm_c_X0_thing (Pr G z ad M [.ref (ad k), .int (nI i)]) (vp_Si (fun r : Int32 => r = oI (th i))) 0 0 (fun _ => False) := by
  refine Met.ofW (cc := cX0_thing) (maxL := 2) (ret := (some .int)) (by decide) rfl ?_
  intro p e s m args below meth c s₁ B hml hv
  obtain ⟨rfl, hv⟩ := hv
  have hI := Iv.entry hv
  have hx := B.exec
  have hb := B.bytes
  have hr := B.returns
  have hts := atoms_spec (ws := wsX0_thing) B.pre
  have hown : s.vm.findClass RX0 = some m.cls := findClass_of_methodNamed B.named
  have hlocks := B.notSynchronized
  have i_RX0 : ∀ w ∈ u_ws RX0 TX0 4, w ∈ wsX0_thing := fun w h => List.mem_cons_of_mem _ (iu_X0 w h)
  have f_15 := hts _ (List.mem_cons_of_mem _ (lwg_of t_101 rfl))
  have hl := lv_entry ([.ref (ad k), .int (nI i)]) (n := 2) (Nat.le_of_ble_eq_true rfl)
  rw [lg_entry_eq]
  generalize (lg_sl ([.ref (ad k), .int (nI i)]) ++ List.replicate (2 - (lg_sl ([.ref (ad k), .int (nI i)])).length) Slot.unset).toArray = ls at hl ⊢
  have hl : lv_has ls 2 [(0, .ref (ad k)), (1, .int (nI i))] := hl
  refine lv_aload_n hx hb dX0_thing_0 rfl (lv_at hl 0 rfl) ?_
  refine h_get (C := RX0) (T := TX0) (N := 4) hx hb hts i_RX0 hown hI hk rfl 1 (by decide) f_15 rfl rfl dX0_thing_1 ?_
  refine lv_iload_n hx hb dX0_thing_4 rfl (lv_at hl 1 rfl) ?_
  refine h_iald (i := i) hx hb hI hk2 (by omega) (by decide) dX0_thing_5 ?_
  exact e_Ri hx hb hr rfl hlocks (rfl) dX0_thing_6

/-- X0_line -/
abbrev rm_c_X0_line : Room := { frames := 0, cells := 0, slots := 0, locals := 0 }
set_option maxHeartbeats 4000000 in
set_option maxRecDepth 100000 in
theorem c_X0_line (l : Launch) (G : GG) (z : Nat) (ad : Nat → Nat) (M : Mem) {k : Nat} {sz : Nat} {ol : Nat → Option Nat} {i : Nat} (hk : M k = some (cEnds ad k sz)) (hk3 : M (k + 3) = some (aI G 6 (oF ol))) (hi : i < 6) : Met l yX0_line wsX0_line rm_c_X0_line (Pr G z ad M [.ref (ad k), .int (nI i)]) (vp_Si (fun r : Int32 => r = oI (ol i))) 0 0 (fun _ => False) := by
  refine Met.ofW (cc := cX0_line) (maxL := 2) (ret := (some .int)) (by decide) rfl ?_
  intro p e s m args below meth c s₁ B hml hv
  obtain ⟨rfl, hv⟩ := hv
  have hI := Iv.entry hv
  have hx := B.exec
  have hb := B.bytes
  have hr := B.returns
  have hts := atoms_spec (ws := wsX0_line) B.pre
  have hown : s.vm.findClass RX0 = some m.cls := findClass_of_methodNamed B.named
  have hlocks := B.notSynchronized
  have i_RX0 : ∀ w ∈ u_ws RX0 TX0 4, w ∈ wsX0_line := fun w h => List.mem_cons_of_mem _ (iu_X0 w h)
  have f_18 := hts _ (List.mem_cons_of_mem _ (lwg_of t_102 rfl))
  have hl := lv_entry ([.ref (ad k), .int (nI i)]) (n := 2) (Nat.le_of_ble_eq_true rfl)
  rw [lg_entry_eq]
  generalize (lg_sl ([.ref (ad k), .int (nI i)]) ++ List.replicate (2 - (lg_sl ([.ref (ad k), .int (nI i)])).length) Slot.unset).toArray = ls at hl ⊢
  have hl : lv_has ls 2 [(0, .ref (ad k)), (1, .int (nI i))] := hl
  refine lv_aload_n hx hb dX0_line_0 rfl (lv_at hl 0 rfl) ?_
  refine h_get (C := RX0) (T := TX0) (N := 4) hx hb hts i_RX0 hown hI hk rfl 2 (by decide) f_18 rfl rfl dX0_line_1 ?_
  refine lv_iload_n hx hb dX0_line_4 rfl (lv_at hl 1 rfl) ?_
  refine h_iald (i := i) hx hb hI hk3 (by omega) (by decide) dX0_line_5 ?_
  exact e_Ri hx hb hr rfl hlocks (rfl) dX0_line_6

/-- how many of the first n have the role x -/
def cntR (rl : Nat → Nat) (x : Nat) : Nat → Nat
  | 0 => 0
  | n + 1 => if rl n = x then cntR rl x n + 1 else cntR rl x n
theorem cntR_le (rl : Nat → Nat) (x n : Nat) : cntR rl x n ≤ n := by
  induction n with
  | zero => exact Nat.le_refl 0
  | succ n ih => simp only [cntR]; split <;> omega

/-- X0_inRole -/
abbrev rm_c_X0_inRole : Room := { frames := 0, cells := 0, slots := 0, locals := 0 }
set_option maxHeartbeats 4000000 in
set_option maxRecDepth 100000 in
theorem c_X0_inRole (l : Launch) (G : GG) (z : Nat) (ad : Nat → Nat) (M : Mem) {k : Nat} {sz : Nat} {rl : Nat → Nat} {x : Nat} (hk : M k = some (cEnds ad k sz)) (hk1 : M (k + 1) = some (aI G 6 (nF rl))) (hsz : sz ≤ 6) (hrl : ∀ j, j < sz → rl j < 6) (hx6 : x < 6) : Met l yX0_inRole wsX0_inRole rm_c_X0_inRole (Pr G z ad M [.ref (ad k), .int (nI x)]) (vp_Si (fun r : Int32 => r = nI (cntR rl x sz))) 0 0 (fun _ => False) := by
  refine Met.ofW (cc := cX0_inRole) (maxL := 4) (ret := (some .int)) (by decide) rfl ?_
  intro p e s m args below meth c s₁ B hml hv
  obtain ⟨rfl, hv⟩ := hv
  have hI := Iv.entry hv
  have hx := B.exec
  have hb := B.bytes
  have hr := B.returns
  have hts := atoms_spec (ws := wsX0_inRole) B.pre
  have hown : s.vm.findClass RX0 = some m.cls := findClass_of_methodNamed B.named
  have hlocks := B.notSynchronized
  have i_RX0 : ∀ w ∈ u_ws RX0 TX0 4, w ∈ wsX0_inRole := fun w h => List.mem_cons_of_mem _ (iu_X0 w h)
  have f_21 := hts _ (List.mem_cons_of_mem _ (lwg_of t_103 rfl))
  have f_9 := hts _ (List.mem_cons_of_mem _ (lwg_of t_100 rfl))
  have hl := lv_entry ([.ref (ad k), .int (nI x)]) (n := 4) (Nat.le_of_ble_eq_true rfl)
  rw [lg_entry_eq]
  generalize (lg_sl ([.ref (ad k), .int (nI x)]) ++ List.replicate (4 - (lg_sl ([.ref (ad k), .int (nI x)])).length) Slot.unset).toArray = ls at hl ⊢
  have hl : lv_has ls 4 [(0, .ref (ad k)), (1, .int (nI x))] := hl
  refine w_q (fun Q hQ => ?_)
  refine lv_iconst (v := nI 0) hx hb dX0_inRole_0 (by decide) ?_
  refine lv_istore_n (lv' := [(2, .int (nI 0)), (0, .ref (ad k)), (1, .int (nI x))]) hx hb dX0_inRole_1 rfl hl (by decide) rfl (fun ls hl => ?_)
  refine lv_iconst (v := nI 0) hx hb dX0_inRole_2 (by decide) ?_
  refine lv_istore_n (lv' := [(3, .int (nI 0)), (2, .int (nI 0)), (0, .ref (ad k)), (1, .int (nI x))]) hx hb dX0_inRole_3 rfl hl (by decide) rfl (fun ls hl => ?_)
  have lp4_1 : ∀ (fuel : Nat) (i : Nat) (cn : Nat) (ls : Array Slot), (sz - i) < fuel → (i ≤ sz) → (cn = cntR rl x i) → lv_has ls 4 [(0, .ref (ad k)), (1, .int (nI x)), (2, .int (nI cn)), (3, .int (nI i))] → W p l e (headSpec wsX0_inRole rm_c_X0_inRole).room s m ([.ref (ad k), .int (nI x)] : List Value).toArray below meth c s.heap [] 0 0 Q (F0 m 4 ls []) := by
    intro fuel
    induction fuel with
    | zero => intro i cn ls hfu hi hcn hl; exact absurd hfu (Nat.not_lt_zero _)
    | succ fuel ih_2 =>
      intro i cn ls hfu hi hcn hl
      have hle := cntR_le rl x i
      refine lv_iload_n hx hb dX0_inRole_4 rfl (lv_at hl 3 rfl) ?_
      refine lv_aload_n hx hb dX0_inRole_5 rfl (lv_at hl 0 rfl) ?_
      refine h_get (C := RX0) (T := TX0) (N := 4) hx hb hts i_RX0 hown hI hk rfl 3 (by decide) f_21 rfl rfl dX0_inRole_6 ?_
      refine lv_icmp_ge (tgt := 31) hx hb dX0_inRole_9 (by decide) (fun c_3 => ?_) (fun c_3 => ?_)
      · -- 9: nI i ge
        have c_3 : sz ≤ i := (nI_leI (a := sz) (b := i) (by omega) (by omega)).mp (c_3)
        refine lv_iload_n hx hb dX0_inRole_31 rfl (lv_at hl 2 rfl) ?_
        subst hQ
        exact e_Ri hx hb hr rfl hlocks (by rw [hcn, show sz = i by omega]) dX0_inRole_32
      · -- 9: nI i lt
        have c_3 : i < sz := by have h := mt (nI_leI (a := sz) (b := i) (by omega) (by omega)).mpr c_3; omega
        have hri := hrl i (by omega)
        refine lv_aload_n hx hb dX0_inRole_12 rfl (lv_at hl 0 rfl) ?_
        refine h_get (C := RX0) (T := TX0) (N := 4) hx hb hts i_RX0 hown hI hk rfl 0 (by decide) f_9 rfl rfl dX0_inRole_13 ?_
        refine lv_iload_n hx hb dX0_inRole_16 rfl (lv_at hl 3 rfl) ?_
        refine h_iald (i := i) hx hb hI hk1 (by omega) (by decide) dX0_inRole_17 ?_
        refine lv_iload_n hx hb dX0_inRole_18 rfl (lv_at hl 1 rfl) ?_
        refine lv_icmp_ne (tgt := 25) hx hb dX0_inRole_19 (by decide) (fun c_4 => ?_) (fun c_4 => ?_)
        · -- 19: nI (rl i) ne
          have c_4 : rl i ≠ x := by have h := mt (nI_eq (a := rl i) (b := x) (by omega) (by omega)).mpr c_4; omega
          refine lv_iinc (v := nI (i + 1)) (lv' := [(3, .int (nI (i + 1))), (0, .ref (ad k)), (1, .int (nI x)), (2, .int (nI cn))]) hx hb dX0_inRole_25 hl (k := 3) rfl (nI_add i 1) (by decide) rfl (fun ls hl => ?_)
          refine lv_goto (tgt := 4) hx hb dX0_inRole_28 (by decide) ?_
          exact ih_2 (i + 1) cn ls (by omega) (by omega) (by simp only [cntR]; split <;> omega) (lv_sub hl [1, 2, 3, 0] rfl)
        · -- 19: nI (rl i) eq
          have c_4 : rl i = x := (nI_eq (a := rl i) (b := x) (by omega) (by omega)).mp (c_4)
          refine lv_iinc (v := nI (cn + 1)) (lv' := [(2, .int (nI (cn + 1))), (0, .ref (ad k)), (1, .int (nI x)), (3, .int (nI i))]) hx hb dX0_inRole_22 hl (k := 2) rfl (nI_add cn 1) (by decide) rfl (fun ls hl => ?_)
          refine lv_iinc (v := nI (i + 1)) (lv' := [(3, .int (nI (i + 1))), (2, .int (nI (cn + 1))), (0, .ref (ad k)), (1, .int (nI x))]) hx hb dX0_inRole_25 hl (k := 3) rfl (nI_add i 1) (by decide) rfl (fun ls hl => ?_)
          refine lv_goto (tgt := 4) hx hb dX0_inRole_28 (by decide) ?_
          exact ih_2 (i + 1) (cn + 1) ls (by omega) (by omega) (by simp only [cntR]; split <;> omega) (lv_sub hl [2, 3, 1, 0] rfl)
  exact lp4_1 ((sz - 0) + 1) 0 0 ls (Nat.lt_succ_self _) (by omega) (rfl) (lv_sub hl [2, 3, 1, 0] rfl)

def hasL (ol : Nat → Option Nat) (x n : Nat) : Bool := (List.range n).any (fun i => decide (ol i = some x))
theorem hasL_s (ol : Nat → Option Nat) (x n : Nat) : hasL ol x (n + 1) = (hasL ol x n || decide (ol n = some x)) := by simp [hasL, List.range_succ]
theorem hasL_iff {ol : Nat → Option Nat} {x n : Nat} : hasL ol x n = true ↔ ∃ i, i < n ∧ ol i = some x := by simp [hasL]

theorem hasL_no {ol : Nat → Option Nat} {x n : Nat} (h : ∀ j, j < n → ol j ≠ some x) : bI (hasL ol x n) = nI 0 := by
  cases hc : hasL ol x n with
  | false => rfl
  | true =>
    obtain ⟨j, h1, h2⟩ := hasL_iff.mp hc
    exact absurd h2 (h j h1)
theorem hasL_yes {ol : Nat → Option Nat} {x n i : Nat} (hi : i < n) (h : ol i = some x) : bI (hasL ol x n) = nI 1 := by
  rw [hasL_iff.mpr ⟨i, hi, h⟩]; rfl
theorem lt_s2 {i : Nat} {P : Nat → Prop} (h : ∀ j, j < i → P j) (hi : P i) : ∀ j, j < i + 1 → P j := fun j hj => (Nat.lt_succ_iff_lt_or_eq.mp hj).elim (h j) (fun e => e ▸ hi)

/-- X0_hasLine -/
abbrev rm_c_X0_hasLine : Room := { frames := 0, cells := 0, slots := 0, locals := 0 }
set_option maxHeartbeats 4000000 in
set_option maxRecDepth 100000 in
theorem c_X0_hasLine (l : Launch) (G : GG) (z : Nat) (ad : Nat → Nat) (M : Mem) {k : Nat} {sz : Nat} {ol : Nat → Option Nat} {x : Nat} (hk : M k = some (cEnds ad k sz)) (hk3 : M (k + 3) = some (aI G 6 (oF ol))) (hsz : sz ≤ 6) (ok_ol : ∀ j, j < sz → oK (ol j)) (hx6 : x < 1000) : Met l yX0_hasLine wsX0_hasLine rm_c_X0_hasLine (Pr G z ad M [.ref (ad k), .int (nI x)]) (vp_Si (fun r : Int32 => r = bI (hasL ol x sz))) 0 0 (fun _ => False) := by
  refine Met.ofW (cc := cX0_hasLine) (maxL := 3) (ret := (some .boolean)) (by decide) rfl ?_
  intro p e s m args below meth c s₁ B hml hv
  obtain ⟨rfl, hv⟩ := hv
  have hI := Iv.entry hv
  have hx := B.exec
  have hb := B.bytes
  have hr := B.returns
  have hts := atoms_spec (ws := wsX0_hasLine) B.pre
  have hown : s.vm.findClass RX0 = some m.cls := findClass_of_methodNamed B.named
  have hlocks := B.notSynchronized
  have i_RX0 : ∀ w ∈ u_ws RX0 TX0 4, w ∈ wsX0_hasLine := fun w h => List.mem_cons_of_mem _ (iu_X0 w h)
  have f_21 := hts _ (List.mem_cons_of_mem _ (lwg_of t_103 rfl))
  have f_18 := hts _ (List.mem_cons_of_mem _ (lwg_of t_102 rfl))
  have hl := lv_entry ([.ref (ad k), .int (nI x)]) (n := 3) (Nat.le_of_ble_eq_true rfl)
  rw [lg_entry_eq]
  generalize (lg_sl ([.ref (ad k), .int (nI x)]) ++ List.replicate (3 - (lg_sl ([.ref (ad k), .int (nI x)])).length) Slot.unset).toArray = ls at hl ⊢
  have hl : lv_has ls 3 [(0, .ref (ad k)), (1, .int (nI x))] := hl
  refine w_q (fun Q hQ => ?_)
  refine lv_iconst (v := nI 0) hx hb dX0_hasLine_0 (by decide) ?_
  refine lv_istore_n (lv' := [(2, .int (nI 0)), (0, .ref (ad k)), (1, .int (nI x))]) hx hb dX0_hasLine_1 rfl hl (by decide) rfl (fun ls hl => ?_)
  have lp2_1 : ∀ (fuel : Nat) (i : Nat) (ls : Array Slot), (sz - i) < fuel → (i ≤ sz) → (∀ j, j < i → ol j ≠ some x) → lv_has ls 3 [(0, .ref (ad k)), (1, .int (nI x)), (2, .int (nI i))] → W p l e (headSpec wsX0_hasLine rm_c_X0_hasLine).room s m ([.ref (ad k), .int (nI x)] : List Value).toArray below meth c s.heap [] 0 0 Q (F0 m 2 ls []) := by
    intro fuel
    induction fuel with
    | zero => intro i ls hfu hi hno hl; exact absurd hfu (Nat.not_lt_zero _)
    | succ fuel ih_2 =>
      intro i ls hfu hi hno hl
      refine lv_iload_n hx hb dX0_hasLine_2 rfl (lv_at hl 2 rfl) ?_
      refine lv_aload_n hx hb dX0_hasLine_3 rfl (lv_at hl 0 rfl) ?_
      refine h_get (C := RX0) (T := TX0) (N := 4) hx hb hts i_RX0 hown hI hk rfl 3 (by decide) f_21 rfl rfl dX0_hasLine_4 ?_
      refine lv_icmp_ge (tgt := 28) hx hb dX0_hasLine_7 (by decide) (fun c_3 => ?_) (fun c_3 => ?_)
      · -- 7: nI i ge
        have c_3 : sz ≤ i := (nI_leI (a := sz) (b := i) (by omega) (by omega)).mp (c_3)
        refine lv_iconst (v := nI 0) hx hb dX0_hasLine_28 (by decide) ?_
        subst hQ
        exact e_Ri hx hb hr rfl hlocks ((hasL_no (fun j hj => hno j (by omega))).symm) dX0_hasLine_29
      · -- 7: nI i lt
        have c_3 : i < sz := by have h := mt (nI_leI (a := sz) (b := i) (by omega) (by omega)).mpr c_3; omega
        refine lv_aload_n hx hb dX0_hasLine_10 rfl (lv_at hl 0 rfl) ?_
        refine h_get (C := RX0) (T := TX0) (N := 4) hx hb hts i_RX0 hown hI hk rfl 2 (by decide) f_18 rfl rfl dX0_hasLine_11 ?_
        refine lv_iload_n hx hb dX0_hasLine_14 rfl (lv_at hl 2 rfl) ?_
        refine h_iald (i := i) hx hb hI hk3 (by omega) (by decide) dX0_hasLine_15 ?_
        refine lv_iload_n hx hb dX0_hasLine_16 rfl (lv_at hl 1 rfl) ?_
        refine lv_icmp_ne (tgt := 22) hx hb dX0_hasLine_17 (by decide) (fun c_4 => ?_) (fun c_4 => ?_)
        · -- 17: oI (ol i) ne
          have c_4 : ol i ≠ some x := (fun h => c_4 ((oI_some_of (ok_ol i (by omega)) (by omega)).mpr h))
          refine lv_iinc (v := nI (i + 1)) (lv' := [(2, .int (nI (i + 1))), (0, .ref (ad k)), (1, .int (nI x))]) hx hb dX0_hasLine_22 hl (k := 2) rfl (nI_add i 1) (by decide) rfl (fun ls hl => ?_)
          refine lv_goto (tgt := 2) hx hb dX0_hasLine_25 (by decide) ?_
          exact ih_2 (i + 1) ls (by omega) (by omega) (lt_s2 hno (by assumption)) (lv_sub hl [1, 2, 0] rfl)
        · -- 17: oI (ol i) eq
          have c_4 : ol i = some x := (oI_some_of (ok_ol i (by omega)) (by omega)).mp c_4
          refine lv_iconst (v := nI 1) hx hb dX0_hasLine_20 (by decide) ?_
          subst hQ
          exact e_Ri hx hb hr rfl hlocks ((hasL_yes (by omega) (by assumption)).symm) dX0_hasLine_21
  exact lp2_1 ((sz - 0) + 1) 0 ls (Nat.lt_succ_self _) (by omega) (fun j hj => absurd hj (Nat.not_lt_zero j)) (lv_sub hl [1, 2, 0] rfl)
