/-- X9_checkThing -/
abbrev rm_c_X9_checkThing : Room := { frames := 0, cells := 0, slots := 0, locals := 0 }
set_option maxHeartbeats 4000000 in
set_option maxRecDepth 100000 in
theorem c_X9_checkThing (l : Launch) (G : GG) (z : Nat) (ad : Nat → Nat) (M : Mem) {t : Nat}  (ht : t < 40) : Met l yX9_checkThing wsX9_checkThing rm_c_X9_checkThing (Pr G z ad M [.int (nI t)]) (Nv G z ad (fun (M' : Mem) => (∀ j : Nat,  M' j = M j))) 0 0 (fr z) := by
  refine Met.ofW (cc := cX9_checkThing) (maxL := 1) (ret := none) (by decide) rfl ?_
  intro p e s m args below meth c s₁ B hml hv
  obtain ⟨rfl, hv⟩ := hv
  have hI := Iv.entry hv
  have hx := B.exec
  have hb := B.bytes
  have hr := B.returns
  have hts := atoms_spec (ws := wsX9_checkThing) B.pre
  have hown : s.vm.findClass RX9 = some m.cls := findClass_of_methodNamed B.named
  have hlocks := B.notSynchronized
  have hl := lv_entry ([.int (nI t)]) (n := 1) (Nat.le_of_ble_eq_true rfl)
  rw [lg_entry_eq]
  generalize (lg_sl ([.int (nI t)]) ++ List.replicate (1 - (lg_sl ([.int (nI t)])).length) Slot.unset).toArray = ls at hl ⊢
  have hl : lv_has ls 1 [(0, .int (nI t))] := hl
  refine lv_iload_n hx hb dX9_checkThing_0 rfl (lv_at hl 0 rfl) ?_
  refine lv_if_lt (tgt := 10) hx hb dX9_checkThing_1 (by decide) (fun c_1 => ?_) (fun c_1 => ?_)
  · -- 1: nI t lt
    have c_1 : t < 0 := (nI_ltI (a := t) (b := 0) (by omega) (by omega)).mp (c_1)
    omega
  · -- 1: nI t ge
    have c_1 : 0 ≤ t := by have h := mt (nI_ltI (a := t) (b := 0) (by omega) (by omega)).mpr c_1; omega
    refine lv_iload_n hx hb dX9_checkThing_4 rfl (lv_at hl 0 rfl) ?_
    refine lv_bipush (v := nI 40) hx hb dX9_checkThing_5 (by decide) ?_
    refine lv_icmp_lt (tgt := 21) hx hb dX9_checkThing_7 (by decide) (fun c_2 => ?_) (fun c_2 => ?_)
    · -- 7: nI t lt
      have c_2 : t < 40 := (nI_ltI (a := t) (b := 40) (by omega) (by omega)).mp (c_2)
      exact e_Nv hx hb hr hlocks hI (fun j  => rfl) dX9_checkThing_21
    · -- 7: nI t ge
      have c_2 : 40 ≤ t := by have h := mt (nI_ltI (a := t) (b := 40) (by omega) (by omega)).mpr c_2; omega
      omega

/-- X9_checkThing -/
abbrev rm_c_X9_checkThing_T : Room := { frames := 6, cells := 1, slots := 6, locals := 90 }
set_option maxHeartbeats 4000000 in
set_option maxRecDepth 100000 in
theorem c_X9_checkThing_T (l : Launch) (hst : l.stackTraces = false) (G : GG) (z : Nat) (ad : Nat → Nat) (M : Mem) {x : Int32}  (hbad : x < 0 ∨ ¬ x < nI 40) : vx_Met l yX9_checkThing wsX9_checkThing rm_c_X9_checkThing_T (Pr G z ad M [.int x]) (fun _ _ _ _ => False) (xT G z ad M "java/lang/IndexOutOfBoundsException") 1 6 (fr z) := by
  refine vx_ofW (cc := cX9_checkThing) (maxL := 1) (ret := none) (by decide) rfl ?_
  intro p e s m args below meth c s₁ B hml hnt hv
  obtain ⟨rfl, hv⟩ := hv
  have hI := Iv.entry hv
  have hx := B.exec
  have hb := B.bytes
  have hr := B.returns
  have hts := atoms_spec (ws := wsX9_checkThing) B.pre
  have hown : s.vm.findClass RX9 = some m.cls := findClass_of_methodNamed B.named
  have hlocks := B.notSynchronized
  have tk_O := hts _ (List.mem_cons_of_mem _ (lwg_of t_480 rfl))
  have ti_O := hts _ (List.mem_cons_of_mem _ (lwg_of t_18 rfl))
  have hl := lv_entry ([.int x]) (n := 1) (Nat.le_of_ble_eq_true rfl)
  rw [lg_entry_eq]
  generalize (lg_sl ([.int x]) ++ List.replicate (1 - (lg_sl ([.int x])).length) Slot.unset).toArray = ls at hl ⊢
  have hl : lv_has ls 1 [(0, .int x)] := hl
  refine lv_iload_n hx hb dX9_checkThing_0 rfl (lv_at hl 0 rfl) ?_
  refine lv_if_lt (tgt := 10) hx hb dX9_checkThing_1 (by decide) (fun c_1 => ?_) (fun c_1 => ?_)
  · -- 1: x lt
    exact t_wO hx hb hst hown hts hI (k := 15) (is := 262) rfl tk_O ti_O (by rw [hml]; exact hl.1) dX9_checkThing_10 dX9_checkThing_13 dX9_checkThing_14 dX9_checkThing_17 dX9_checkThing_20 hnt (Nat.le_of_ble_eq_true rfl) (Nat.le_of_ble_eq_true rfl) (Nat.le_of_ble_eq_true rfl) (Nat.le_of_ble_eq_true rfl) hlocks (Nat.le_of_ble_eq_true rfl) (Nat.le_of_ble_eq_true rfl)
  · -- 1: x ge
    refine lv_iload_n hx hb dX9_checkThing_4 rfl (lv_at hl 0 rfl) ?_
    refine lv_bipush (v := nI 40) hx hb dX9_checkThing_5 (by decide) ?_
    refine lv_icmp_lt (tgt := 21) hx hb dX9_checkThing_7 (by decide) (fun c_2 => ?_) (fun c_2 => ?_)
    · -- 7: x lt
      rcases hbad with h9 | h9 <;> contradiction
    · -- 7: x ge
      exact t_wO hx hb hst hown hts hI (k := 15) (is := 262) rfl tk_O ti_O (by rw [hml]; exact hl.1) dX9_checkThing_10 dX9_checkThing_13 dX9_checkThing_14 dX9_checkThing_17 dX9_checkThing_20 hnt (Nat.le_of_ble_eq_true rfl) (Nat.le_of_ble_eq_true rfl) (Nat.le_of_ble_eq_true rfl) (Nat.le_of_ble_eq_true rfl) hlocks (Nat.le_of_ble_eq_true rfl) (Nat.le_of_ble_eq_true rfl)

/-- X9_checkRole -/
abbrev rm_c_X9_checkRole : Room := { frames := 0, cells := 0, slots := 0, locals := 0 }
set_option maxHeartbeats 4000000 in
set_option maxRecDepth 100000 in
theorem c_X9_checkRole (l : Launch) (G : GG) (z : Nat) (ad : Nat → Nat) (M : Mem) {t : Nat}  (ht : t < 6) : Met l yX9_checkRole wsX9_checkRole rm_c_X9_checkRole (Pr G z ad M [.int (nI t)]) (Nv G z ad (fun (M' : Mem) => (∀ j : Nat,  M' j = M j))) 0 0 (fr z) := by
  refine Met.ofW (cc := cX9_checkRole) (maxL := 1) (ret := none) (by decide) rfl ?_
  intro p e s m args below meth c s₁ B hml hv
  obtain ⟨rfl, hv⟩ := hv
  have hI := Iv.entry hv
  have hx := B.exec
  have hb := B.bytes
  have hr := B.returns
  have hts := atoms_spec (ws := wsX9_checkRole) B.pre
  have hown : s.vm.findClass RX9 = some m.cls := findClass_of_methodNamed B.named
  have hlocks := B.notSynchronized
  have hl := lv_entry ([.int (nI t)]) (n := 1) (Nat.le_of_ble_eq_true rfl)
  rw [lg_entry_eq]
  generalize (lg_sl ([.int (nI t)]) ++ List.replicate (1 - (lg_sl ([.int (nI t)])).length) Slot.unset).toArray = ls at hl ⊢
  have hl : lv_has ls 1 [(0, .int (nI t))] := hl
  refine lv_iload_n hx hb dX9_checkRole_0 rfl (lv_at hl 0 rfl) ?_
  refine lv_if_lt (tgt := 10) hx hb dX9_checkRole_1 (by decide) (fun c_1 => ?_) (fun c_1 => ?_)
  · -- 1: nI t lt
    have c_1 : t < 0 := (nI_ltI (a := t) (b := 0) (by omega) (by omega)).mp (c_1)
    omega
  · -- 1: nI t ge
    have c_1 : 0 ≤ t := by have h := mt (nI_ltI (a := t) (b := 0) (by omega) (by omega)).mpr c_1; omega
    refine lv_iload_n hx hb dX9_checkRole_4 rfl (lv_at hl 0 rfl) ?_
    refine lv_bipush (v := nI 6) hx hb dX9_checkRole_5 (by decide) ?_
    refine lv_icmp_lt (tgt := 21) hx hb dX9_checkRole_7 (by decide) (fun c_2 => ?_) (fun c_2 => ?_)
    · -- 7: nI t lt
      have c_2 : t < 6 := (nI_ltI (a := t) (b := 6) (by omega) (by omega)).mp (c_2)
      exact e_Nv hx hb hr hlocks hI (fun j  => rfl) dX9_checkRole_21
    · -- 7: nI t ge
      have c_2 : 6 ≤ t := by have h := mt (nI_ltI (a := t) (b := 6) (by omega) (by omega)).mpr c_2; omega
      omega

/-- X9_checkRole -/
abbrev rm_c_X9_checkRole_T : Room := { frames := 6, cells := 1, slots := 6, locals := 90 }
set_option maxHeartbeats 4000000 in
set_option maxRecDepth 100000 in
theorem c_X9_checkRole_T (l : Launch) (hst : l.stackTraces = false) (G : GG) (z : Nat) (ad : Nat → Nat) (M : Mem) {x : Int32}  (hbad : x < 0 ∨ ¬ x < nI 6) : vx_Met l yX9_checkRole wsX9_checkRole rm_c_X9_checkRole_T (Pr G z ad M [.int x]) (fun _ _ _ _ => False) (xT G z ad M "java/lang/IndexOutOfBoundsException") 1 6 (fr z) := by
  refine vx_ofW (cc := cX9_checkRole) (maxL := 1) (ret := none) (by decide) rfl ?_
  intro p e s m args below meth c s₁ B hml hnt hv
  obtain ⟨rfl, hv⟩ := hv
  have hI := Iv.entry hv
  have hx := B.exec
  have hb := B.bytes
  have hr := B.returns
  have hts := atoms_spec (ws := wsX9_checkRole) B.pre
  have hown : s.vm.findClass RX9 = some m.cls := findClass_of_methodNamed B.named
  have hlocks := B.notSynchronized
  have tk_O := hts _ (List.mem_cons_of_mem _ (lwg_of t_480 rfl))
  have ti_O := hts _ (List.mem_cons_of_mem _ (lwg_of t_18 rfl))
  have hl := lv_entry ([.int x]) (n := 1) (Nat.le_of_ble_eq_true rfl)
  rw [lg_entry_eq]
  generalize (lg_sl ([.int x]) ++ List.replicate (1 - (lg_sl ([.int x])).length) Slot.unset).toArray = ls at hl ⊢
  have hl : lv_has ls 1 [(0, .int x)] := hl
  refine lv_iload_n hx hb dX9_checkRole_0 rfl (lv_at hl 0 rfl) ?_
  refine lv_if_lt (tgt := 10) hx hb dX9_checkRole_1 (by decide) (fun c_1 => ?_) (fun c_1 => ?_)
  · -- 1: x lt
    exact t_wO hx hb hst hown hts hI (k := 16) (is := 265) rfl tk_O ti_O (by rw [hml]; exact hl.1) dX9_checkRole_10 dX9_checkRole_13 dX9_checkRole_14 dX9_checkRole_17 dX9_checkRole_20 hnt (Nat.le_of_ble_eq_true rfl) (Nat.le_of_ble_eq_true rfl) (Nat.le_of_ble_eq_true rfl) (Nat.le_of_ble_eq_true rfl) hlocks (Nat.le_of_ble_eq_true rfl) (Nat.le_of_ble_eq_true rfl)
  · -- 1: x ge
    refine lv_iload_n hx hb dX9_checkRole_4 rfl (lv_at hl 0 rfl) ?_
    refine lv_bipush (v := nI 6) hx hb dX9_checkRole_5 (by decide) ?_
    refine lv_icmp_lt (tgt := 21) hx hb dX9_checkRole_7 (by decide) (fun c_2 => ?_) (fun c_2 => ?_)
    · -- 7: x lt
      rcases hbad with h9 | h9 <;> contradiction
    · -- 7: x ge
      exact t_wO hx hb hst hown hts hI (k := 16) (is := 265) rfl tk_O ti_O (by rw [hml]; exact hl.1) dX9_checkRole_10 dX9_checkRole_13 dX9_checkRole_14 dX9_checkRole_17 dX9_checkRole_20 hnt (Nat.le_of_ble_eq_true rfl) (Nat.le_of_ble_eq_true rfl) (Nat.le_of_ble_eq_true rfl) (Nat.le_of_ble_eq_true rfl) hlocks (Nat.le_of_ble_eq_true rfl) (Nat.le_of_ble_eq_true rfl)

/-- X9_checkKind -/
abbrev rm_c_X9_checkKind : Room := { frames := 0, cells := 0, slots := 0, locals := 0 }
set_option maxHeartbeats 4000000 in
set_option maxRecDepth 100000 in
theorem c_X9_checkKind (l : Launch) (G : GG) (z : Nat) (ad : Nat → Nat) (M : Mem) {t : Nat}  (ht : t < 6) : Met l yX9_checkKind wsX9_checkKind rm_c_X9_checkKind (Pr G z ad M [.int (nI t)]) (Nv G z ad (fun (M' : Mem) => (∀ j : Nat,  M' j = M j))) 0 0 (fr z) := by
  refine Met.ofW (cc := cX9_checkKind) (maxL := 1) (ret := none) (by decide) rfl ?_
  intro p e s m args below meth c s₁ B hml hv
  obtain ⟨rfl, hv⟩ := hv
  have hI := Iv.entry hv
  have hx := B.exec
  have hb := B.bytes
  have hr := B.returns
  have hts := atoms_spec (ws := wsX9_checkKind) B.pre
  have hown : s.vm.findClass RX9 = some m.cls := findClass_of_methodNamed B.named
  have hlocks := B.notSynchronized
  have hl := lv_entry ([.int (nI t)]) (n := 1) (Nat.le_of_ble_eq_true rfl)
  rw [lg_entry_eq]
  generalize (lg_sl ([.int (nI t)]) ++ List.replicate (1 - (lg_sl ([.int (nI t)])).length) Slot.unset).toArray = ls at hl ⊢
  have hl : lv_has ls 1 [(0, .int (nI t))] := hl
  refine lv_iload_n hx hb dX9_checkKind_0 rfl (lv_at hl 0 rfl) ?_
  refine lv_if_lt (tgt := 10) hx hb dX9_checkKind_1 (by decide) (fun c_1 => ?_) (fun c_1 => ?_)
  · -- 1: nI t lt
    have c_1 : t < 0 := (nI_ltI (a := t) (b := 0) (by omega) (by omega)).mp (c_1)
    omega
  · -- 1: nI t ge
    have c_1 : 0 ≤ t := by have h := mt (nI_ltI (a := t) (b := 0) (by omega) (by omega)).mpr c_1; omega
    refine lv_iload_n hx hb dX9_checkKind_4 rfl (lv_at hl 0 rfl) ?_
    refine lv_bipush (v := nI 6) hx hb dX9_checkKind_5 (by decide) ?_
    refine lv_icmp_lt (tgt := 21) hx hb dX9_checkKind_7 (by decide) (fun c_2 => ?_) (fun c_2 => ?_)
    · -- 7: nI t lt
      have c_2 : t < 6 := (nI_ltI (a := t) (b := 6) (by omega) (by omega)).mp (c_2)
      exact e_Nv hx hb hr hlocks hI (fun j  => rfl) dX9_checkKind_21
    · -- 7: nI t ge
      have c_2 : 6 ≤ t := by have h := mt (nI_ltI (a := t) (b := 6) (by omega) (by omega)).mpr c_2; omega
      omega

/-- X9_checkKind -/
abbrev rm_c_X9_checkKind_T : Room := { frames := 6, cells := 1, slots := 6, locals := 90 }
set_option maxHeartbeats 4000000 in
set_option maxRecDepth 100000 in
theorem c_X9_checkKind_T (l : Launch) (hst : l.stackTraces = false) (G : GG) (z : Nat) (ad : Nat → Nat) (M : Mem) {x : Int32}  (hbad : x < 0 ∨ ¬ x < nI 6) : vx_Met l yX9_checkKind wsX9_checkKind rm_c_X9_checkKind_T (Pr G z ad M [.int x]) (fun _ _ _ _ => False) (xT G z ad M "java/lang/IndexOutOfBoundsException") 1 6 (fr z) := by
  refine vx_ofW (cc := cX9_checkKind) (maxL := 1) (ret := none) (by decide) rfl ?_
  intro p e s m args below meth c s₁ B hml hnt hv
  obtain ⟨rfl, hv⟩ := hv
  have hI := Iv.entry hv
  have hx := B.exec
  have hb := B.bytes
  have hr := B.returns
  have hts := atoms_spec (ws := wsX9_checkKind) B.pre
  have hown : s.vm.findClass RX9 = some m.cls := findClass_of_methodNamed B.named
  have hlocks := B.notSynchronized
  have tk_O := hts _ (List.mem_cons_of_mem _ (lwg_of t_480 rfl))
  have ti_O := hts _ (List.mem_cons_of_mem _ (lwg_of t_18 rfl))
  have hl := lv_entry ([.int x]) (n := 1) (Nat.le_of_ble_eq_true rfl)
  rw [lg_entry_eq]
  generalize (lg_sl ([.int x]) ++ List.replicate (1 - (lg_sl ([.int x])).length) Slot.unset).toArray = ls at hl ⊢
  have hl : lv_has ls 1 [(0, .int x)] := hl
  refine lv_iload_n hx hb dX9_checkKind_0 rfl (lv_at hl 0 rfl) ?_
  refine lv_if_lt (tgt := 10) hx hb dX9_checkKind_1 (by decide) (fun c_1 => ?_) (fun c_1 => ?_)
  · -- 1: x lt
    exact t_wO hx hb hst hown hts hI (k := 17) (is := 267) rfl tk_O ti_O (by rw [hml]; exact hl.1) dX9_checkKind_10 dX9_checkKind_13 dX9_checkKind_14 dX9_checkKind_17 dX9_checkKind_20 hnt (Nat.le_of_ble_eq_true rfl) (Nat.le_of_ble_eq_true rfl) (Nat.le_of_ble_eq_true rfl) (Nat.le_of_ble_eq_true rfl) hlocks (Nat.le_of_ble_eq_true rfl) (Nat.le_of_ble_eq_true rfl)
  · -- 1: x ge
    refine lv_iload_n hx hb dX9_checkKind_4 rfl (lv_at hl 0 rfl) ?_
    refine lv_bipush (v := nI 6) hx hb dX9_checkKind_5 (by decide) ?_
    refine lv_icmp_lt (tgt := 21) hx hb dX9_checkKind_7 (by decide) (fun c_2 => ?_) (fun c_2 => ?_)
    · -- 7: x lt
      rcases hbad with h9 | h9 <;> contradiction
    · -- 7: x ge
      exact t_wO hx hb hst hown hts hI (k := 17) (is := 267) rfl tk_O ti_O (by rw [hml]; exact hl.1) dX9_checkKind_10 dX9_checkKind_13 dX9_checkKind_14 dX9_checkKind_17 dX9_checkKind_20 hnt (Nat.le_of_ble_eq_true rfl) (Nat.le_of_ble_eq_true rfl) (Nat.le_of_ble_eq_true rfl) (Nat.le_of_ble_eq_true rfl) hlocks (Nat.le_of_ble_eq_true rfl) (Nat.le_of_ble_eq_true rfl)

/-- X9_checkLine -/
abbrev rm_c_X9_checkLine : Room := { frames := 2, cells := 0, slots := 0, locals := 40 }
set_option maxHeartbeats 4000000 in
set_option maxRecDepth 100000 in
theorem c_X9_checkLine (l : Launch) (G : GG) (z : Nat) (ad : Nat → Nat) (M : Mem) {n : Nat} {kd : Nat → Nat} {fm : Nat → Int32} {to : Nat → Int32} {sz : Nat → Nat} {rl : Nat → Nat → Nat} {en : Nat → Nat → Nat} {qa : Nat} {qs : Nat} {fw : Int32} {t : Nat} (hL : LSm G ad M n kd fm to sz rl en) (h0 : M 0 = some (cStore ad qa qs fw)) (ht : t < n) (hn : n ≤ 120) : Met l yX9_checkLine wsX9_checkLine rm_c_X9_checkLine (Pr G z ad M [.ref (ad 0), .int (nI t)]) (Nv G z ad (fun (M' : Mem) => (∀ j : Nat,  M' j = M j))) 0 0 (fr z) := by
  refine Met.ofW (cc := cX9_checkLine) (maxL := 2) (ret := none) (by decide) rfl ?_
  intro p e s m args below meth c s₁ B hml hv
  obtain ⟨rfl, hv⟩ := hv
  have hI := Iv.entry hv
  have hx := B.exec
  have hb := B.bytes
  have hr := B.returns
  have hts := atoms_spec (ws := wsX9_checkLine) B.pre
  have hown : s.vm.findClass RX9 = some m.cls := findClass_of_methodNamed B.named
  have hlocks := B.notSynchronized
  have i_RX9 : ∀ w ∈ u_ws RX9 TX9 10, w ∈ wsX9_checkLine := fun w h => List.mem_cons_of_mem _ (iu_X9 w h)
  have f_40 := hts _ (List.mem_cons_of_mem _ (lwg_of t_243 rfl))
  have hl := lv_entry ([.ref (ad 0), .int (nI t)]) (n := 2) (Nat.le_of_ble_eq_true rfl)
  rw [lg_entry_eq]
  generalize (lg_sl ([.ref (ad 0), .int (nI t)]) ++ List.replicate (2 - (lg_sl ([.ref (ad 0), .int (nI t)])).length) Slot.unset).toArray = ls at hl ⊢
  have hl : lv_has ls 2 [(0, .ref (ad 0)), (1, .int (nI t))] := hl
  have h16 := hL.1
  obtain ⟨mcn, ed, h17, hed⟩ := id hL.2.1
  refine lv_iload_n hx hb dX9_checkLine_0 rfl (lv_at hl 1 rfl) ?_
  refine lv_if_lt (tgt := 15) hx hb dX9_checkLine_1 (by decide) (fun c_1 => ?_) (fun c_1 => ?_)
  · -- 1: nI t lt
    have c_1 : t < 0 := (nI_ltI (a := t) (b := 0) (by omega) (by omega)).mp (c_1)
    omega
  · -- 1: nI t ge
    have c_1 : 0 ≤ t := by have h := mt (nI_ltI (a := t) (b := 0) (by omega) (by omega)).mpr c_1; omega
    refine lv_iload_n hx hb dX9_checkLine_4 rfl (lv_at hl 1 rfl) ?_
    refine lv_aload_n hx hb dX9_checkLine_5 rfl (lv_at hl 0 rfl) ?_
    refine h_get (C := RX9) (T := TX9) (N := 10) hx hb hts i_RX9 hown hI h0 rfl 4 (by decide) f_40 rfl rfl dX9_checkLine_6 ?_
    refine k_Ri (va_runV (As := []) (rest := [.int (nI t)]) ⟨hx, hb, hml, hown, hts⟩ (c_X3_size l G z ad M (n := n) (kd := kd) (fm := fm) (to := to) (sz := sz) (rl := rl) (en := en) hL) (cwV 0 hts (gV (lwg_of t_449 rfl) (lwg_of t_325 rfl) (lwg_of t_326 rfl) (lwg_of t_6 rfl) (lwg_of t_327 rfl)) rfl rfl rfl (by decide +kernel) ⟨Nat.le_of_ble_eq_true rfl, Nat.le_of_ble_eq_true rfl⟩) (hI.preV h16 rfl) rfl rfl hl.1 rfl (lv_room (Nat.le_of_ble_eq_true rfl)) dX9_checkLine_9 ⟨Nat.le_of_ble_eq_true rfl, Nat.le_of_ble_eq_true rfl⟩) (fun _ h => h) (fun r_2 hp_3 => ?_)
    rw [hp_3]
    refine lv_icmp_lt (tgt := 26) hx hb dX9_checkLine_12 (by decide) (fun c_4 => ?_) (fun c_4 => ?_)
    · -- 12: nI t lt
      have c_4 : t < n := (nI_ltI (a := t) (b := n) (by omega) (by omega)).mp (c_4)
      exact e_Nv hx hb hr hlocks hI (fun j  => rfl) dX9_checkLine_26
    · -- 12: nI t ge
      have c_4 : n ≤ t := by have h := mt (nI_ltI (a := t) (b := n) (by omega) (by omega)).mpr c_4; omega
      omega

/-- X9_checkLine -/
abbrev rm_c_X9_checkLine_T : Room := { frames := 6, cells := 1, slots := 6, locals := 90 }
set_option maxHeartbeats 4000000 in
set_option maxRecDepth 100000 in
theorem c_X9_checkLine_T (l : Launch) (hst : l.stackTraces = false) (G : GG) (z : Nat) (ad : Nat → Nat) (M : Mem) {n : Nat} {kd : Nat → Nat} {fm : Nat → Int32} {to : Nat → Int32} {sz : Nat → Nat} {rl : Nat → Nat → Nat} {en : Nat → Nat → Nat} {qa : Nat} {qs : Nat} {fw : Int32} {x : Int32} (hL : LSm G ad M n kd fm to sz rl en) (h0 : M 0 = some (cStore ad qa qs fw)) (hbad : x < 0 ∨ ¬ x < nI n) : vx_Met l yX9_checkLine wsX9_checkLine rm_c_X9_checkLine_T (Pr G z ad M [.ref (ad 0), .int x]) (fun _ _ _ _ => False) (xT G z ad M "java/lang/IndexOutOfBoundsException") 1 6 (fr z) := by
  refine vx_ofW (cc := cX9_checkLine) (maxL := 2) (ret := none) (by decide) rfl ?_
  intro p e s m args below meth c s₁ B hml hnt hv
  obtain ⟨rfl, hv⟩ := hv
  have hI := Iv.entry hv
  have hx := B.exec
  have hb := B.bytes
  have hr := B.returns
  have hts := atoms_spec (ws := wsX9_checkLine) B.pre
  have hown : s.vm.findClass RX9 = some m.cls := findClass_of_methodNamed B.named
  have hlocks := B.notSynchronized
  have tk_O := hts _ (List.mem_cons_of_mem _ (lwg_of t_480 rfl))
  have ti_O := hts _ (List.mem_cons_of_mem _ (lwg_of t_18 rfl))
  have i_RX9 : ∀ w ∈ u_ws RX9 TX9 10, w ∈ wsX9_checkLine := fun w h => List.mem_cons_of_mem _ (iu_X9 w h)
  have f_40 := hts _ (List.mem_cons_of_mem _ (lwg_of t_243 rfl))
  have hl := lv_entry ([.ref (ad 0), .int x]) (n := 2) (Nat.le_of_ble_eq_true rfl)
  rw [lg_entry_eq]
  generalize (lg_sl ([.ref (ad 0), .int x]) ++ List.replicate (2 - (lg_sl ([.ref (ad 0), .int x])).length) Slot.unset).toArray = ls at hl ⊢
  have hl : lv_has ls 2 [(0, .ref (ad 0)), (1, .int x)] := hl
  have h16 := hL.1
  obtain ⟨mcn, ed, h17, hed⟩ := id hL.2.1
  refine lv_iload_n hx hb dX9_checkLine_0 rfl (lv_at hl 1 rfl) ?_
  refine lv_if_lt (tgt := 15) hx hb dX9_checkLine_1 (by decide) (fun c_1 => ?_) (fun c_1 => ?_)
  · -- 1: x lt
    exact t_wO hx hb hst hown hts hI (k := 18) (is := 269) rfl tk_O ti_O (by rw [hml]; exact hl.1) dX9_checkLine_15 dX9_checkLine_18 dX9_checkLine_19 dX9_checkLine_22 dX9_checkLine_25 hnt (Nat.le_of_ble_eq_true rfl) (Nat.le_of_ble_eq_true rfl) (Nat.le_of_ble_eq_true rfl) (Nat.le_of_ble_eq_true rfl) hlocks (Nat.le_of_ble_eq_true rfl) (Nat.le_of_ble_eq_true rfl)
  · -- 1: x ge
    refine lv_iload_n hx hb dX9_checkLine_4 rfl (lv_at hl 1 rfl) ?_
    refine lv_aload_n hx hb dX9_checkLine_5 rfl (lv_at hl 0 rfl) ?_
    refine h_get (C := RX9) (T := TX9) (N := 10) hx hb hts i_RX9 hown hI h0 rfl 4 (by decide) f_40 rfl rfl dX9_checkLine_6 ?_
    refine k_Ri (va_runV (As := []) (rest := [.int x]) ⟨hx, hb, hml, hown, hts⟩ (c_X3_size l G z ad M (n := n) (kd := kd) (fm := fm) (to := to) (sz := sz) (rl := rl) (en := en) hL) (cwV 0 hts (gV (lwg_of t_449 rfl) (lwg_of t_325 rfl) (lwg_of t_326 rfl) (lwg_of t_6 rfl) (lwg_of t_327 rfl)) rfl rfl rfl (by decide +kernel) ⟨Nat.le_of_ble_eq_true rfl, Nat.le_of_ble_eq_true rfl⟩) (hI.preV h16 rfl) rfl rfl hl.1 rfl (lv_room (Nat.le_of_ble_eq_true rfl)) dX9_checkLine_9 ⟨Nat.le_of_ble_eq_true rfl, Nat.le_of_ble_eq_true rfl⟩) (fun _ h => h) (fun r_2 hp_3 => ?_)
    rw [hp_3]
    refine lv_icmp_lt (tgt := 26) hx hb dX9_checkLine_12 (by decide) (fun c_4 => ?_) (fun c_4 => ?_)
    · -- 12: x lt
      rcases hbad with h9 | h9 <;> contradiction
    · -- 12: x ge
      exact t_wO hx hb hst hown hts hI (k := 18) (is := 269) rfl tk_O ti_O (by rw [hml]; exact hl.1) dX9_checkLine_15 dX9_checkLine_18 dX9_checkLine_19 dX9_checkLine_22 dX9_checkLine_25 hnt (Nat.le_of_ble_eq_true rfl) (Nat.le_of_ble_eq_true rfl) (Nat.le_of_ble_eq_true rfl) (Nat.le_of_ble_eq_true rfl) hlocks (Nat.le_of_ble_eq_true rfl) (Nat.le_of_ble_eq_true rfl)

/-- X9_ends -/
abbrev rm_c_X9_ends_a : Room := { frames := 7, cells := 1, slots := 6, locals := 110 }
set_option maxHeartbeats 4000000 in
set_option maxRecDepth 100000 in
theorem c_X9_ends_a (l : Launch) (hst : l.stackTraces = false) (G : GG) (z : Nat) (ad : Nat → Nat) (M : Mem) {x0 : Int32} {x1 : Int32} {x2 : Int32} {x3 : Int32}  (hbad : x0 < 0 ∨ ¬ x0 < nI 6) : vx_Met l yX9_ends wsX9_ends rm_c_X9_ends_a (Pr G z ad M [.ref (ad 0), .int x0, .int x1, .int x2, .int x3]) (fun _ _ _ _ => False) (xT G z ad M "java/lang/IndexOutOfBoundsException") 1 6 (fr z) := by
  refine vx_ofW (cc := cX9_ends) (maxL := 5) (ret := none) (by decide) rfl ?_
  intro p e s m args below meth c s₁ B hml hnt hv
  obtain ⟨rfl, hv⟩ := hv
  have hI := Iv.entry hv
  have hx := B.exec
  have hb := B.bytes
  have hr := B.returns
  have hts := atoms_spec (ws := wsX9_ends) B.pre
  have hown : s.vm.findClass RX9 = some m.cls := findClass_of_methodNamed B.named
  have hlocks := B.notSynchronized
  have hl := lv_entry ([.ref (ad 0), .int x0, .int x1, .int x2, .int x3]) (n := 5) (Nat.le_of_ble_eq_true rfl)
  rw [lg_entry_eq]
  generalize (lg_sl ([.ref (ad 0), .int x0, .int x1, .int x2, .int x3]) ++ List.replicate (5 - (lg_sl ([.ref (ad 0), .int x0, .int x1, .int x2, .int x3])).length) Slot.unset).toArray = ls at hl ⊢
  have hl : lv_has ls 5 [(0, .ref (ad 0)), (1, .int x0), (2, .int x1), (3, .int x2), (4, .int x3)] := hl
  refine lv_iload_n hx hb dX9_ends_0 rfl (lv_at hl 1 rfl) ?_
  refine k_T (vx_runS (As := [.int x0]) (rest := []) ⟨hx, hb, hml, hown, hts⟩ (c_X9_checkKind_T l hst G z ad M (x := x0) hbad) (va_cwS 1 hts (gS (lwg_of t_477 rfl) (lwg_of t_478 rfl) (lwg_of t_1 rfl) (lwg_of t_479 rfl)) rfl rfl rfl (by decide +kernel) ⟨Nat.le_of_ble_eq_true rfl, Nat.le_of_ble_eq_true rfl⟩) hI.preS rfl rfl hl.1 rfl (lv_room (Nat.le_of_ble_eq_true rfl)) dX9_ends_1 ⟨Nat.le_of_ble_eq_true rfl, Nat.le_of_ble_eq_true rfl⟩) hI (fun ce q9 H_3 locs_4 hI hce hcv hcl => ?_)
  exact e_out hnt hlocks hI hce hcv hcl (Nat.le_of_ble_eq_true rfl) (Nat.le_of_ble_eq_true rfl)

/-- X9_ends -/
abbrev rm_c_X9_ends_b : Room := { frames := 7, cells := 1, slots := 6, locals := 110 }
set_option maxHeartbeats 4000000 in
set_option maxRecDepth 100000 in
theorem c_X9_ends_b (l : Launch) (hst : l.stackTraces = false) (G : GG) (z : Nat) (ad : Nat → Nat) (M : Mem) {kd : Nat} {x1 : Int32} {x2 : Int32} {x3 : Int32}  (hkd : kd < 6) (hbad : x1 < 0 ∨ ¬ x1 < nI 6) : vx_Met l yX9_ends wsX9_ends rm_c_X9_ends_b (Pr G z ad M [.ref (ad 0), .int (nI kd), .int x1, .int x2, .int x3]) (fun _ _ _ _ => False) (xT G z ad M "java/lang/IndexOutOfBoundsException") 1 6 (fr z) := by
  refine vx_ofW (cc := cX9_ends) (maxL := 5) (ret := none) (by decide) rfl ?_
  intro p e s m args below meth c s₁ B hml hnt hv
  obtain ⟨rfl, hv⟩ := hv
  have hI := Iv.entry hv
  have hx := B.exec
  have hb := B.bytes
  have hr := B.returns
  have hts := atoms_spec (ws := wsX9_ends) B.pre
  have hown : s.vm.findClass RX9 = some m.cls := findClass_of_methodNamed B.named
  have hlocks := B.notSynchronized
  have hl := lv_entry ([.ref (ad 0), .int (nI kd), .int x1, .int x2, .int x3]) (n := 5) (Nat.le_of_ble_eq_true rfl)
  rw [lg_entry_eq]
  generalize (lg_sl ([.ref (ad 0), .int (nI kd), .int x1, .int x2, .int x3]) ++ List.replicate (5 - (lg_sl ([.ref (ad 0), .int (nI kd), .int x1, .int x2, .int x3])).length) Slot.unset).toArray = ls at hl ⊢
  have hl : lv_has ls 5 [(0, .ref (ad 0)), (1, .int (nI kd)), (2, .int x1), (3, .int x2), (4, .int x3)] := hl
  refine lv_iload_n hx hb dX9_ends_0 rfl (lv_at hl 1 rfl) ?_
  refine k_Nv (va_runS (As := [.int (nI kd)]) (rest := []) ⟨hx, hb, hml, hown, hts⟩ (c_X9_checkKind l G z ad M (t := kd) (by omega)) (va_cwS 1 hts (gS (lwg_of t_477 rfl) (lwg_of t_478 rfl) (lwg_of t_1 rfl) (lwg_of t_479 rfl)) rfl rfl rfl (by decide +kernel) ⟨Nat.le_of_ble_eq_true rfl, Nat.le_of_ble_eq_true rfl⟩) hI.preS rfl rfl hl.1 rfl (lv_room (Nat.le_of_ble_eq_true rfl)) dX9_ends_1 ⟨Nat.le_of_ble_eq_true rfl, Nat.le_of_ble_eq_true rfl⟩) hI (fun M_3 H_4 locs_5 hp_2 hI => ?_)
  have eM_6 : M = M_3 := (funext hp_2).symm
  subst eM_6
  refine lv_iload_n hx hb dX9_ends_4 rfl (lv_at hl 2 rfl) ?_
  refine k_T (vx_runS (As := [.int x1]) (rest := []) ⟨hx, hb, hml, hown, hts⟩ (c_X9_checkRole_T l hst G z ad M (x := x1) hbad) (va_cwS 1 hts (gS (lwg_of t_549 rfl) (lwg_of t_550 rfl) (lwg_of t_1 rfl) (lwg_of t_551 rfl)) rfl rfl rfl (by decide +kernel) ⟨Nat.le_of_ble_eq_true rfl, Nat.le_of_ble_eq_true rfl⟩) hI.preS rfl rfl hl.1 rfl (lv_room (Nat.le_of_ble_eq_true rfl)) dX9_ends_5 ⟨Nat.le_of_ble_eq_true rfl, Nat.le_of_ble_eq_true rfl⟩) hI (fun ce q9 H_9 locs_10 hI hce hcv hcl => ?_)
  exact e_out hnt hlocks hI hce hcv hcl (Nat.le_of_ble_eq_true rfl) (Nat.le_of_ble_eq_true rfl)

/-- X9_ends -/
abbrev rm_c_X9_ends_c : Room := { frames := 6, cells := 1, slots := 6, locals := 90 }
set_option maxHeartbeats 4000000 in
set_option maxRecDepth 100000 in
theorem c_X9_ends_c (l : Launch) (hst : l.stackTraces = false) (G : GG) (z : Nat) (ad : Nat → Nat) (M : Mem) {kd : Nat} {ro : Nat} {x2 : Int32} {x3 : Int32}  (hkd : kd < 6) (hro : ro < 6) (hbad : x2 < 0 ∨ x3 < x2 ∨ nI 6 < x3) : vx_Met l yX9_ends wsX9_ends rm_c_X9_ends_c (Pr G z ad M [.ref (ad 0), .int (nI kd), .int (nI ro), .int x2, .int x3]) (fun _ _ _ _ => False) (xT G z ad M "java/lang/IllegalArgumentException") 1 6 (fr z) := by
  refine vx_ofW (cc := cX9_ends) (maxL := 5) (ret := none) (by decide) rfl ?_
  intro p e s m args below meth c s₁ B hml hnt hv
  obtain ⟨rfl, hv⟩ := hv
  have hI := Iv.entry hv
  have hx := B.exec
  have hb := B.bytes
  have hr := B.returns
  have hts := atoms_spec (ws := wsX9_ends) B.pre
  have hown : s.vm.findClass RX9 = some m.cls := findClass_of_methodNamed B.named
  have hlocks := B.notSynchronized
  have tk_A := hts _ (List.mem_cons_of_mem _ (lwg_of t_553 rfl))
  have ti_A := hts _ (List.mem_cons_of_mem _ (lwg_of t_19 rfl))
  have hl := lv_entry ([.ref (ad 0), .int (nI kd), .int (nI ro), .int x2, .int x3]) (n := 5) (Nat.le_of_ble_eq_true rfl)
  rw [lg_entry_eq]
  generalize (lg_sl ([.ref (ad 0), .int (nI kd), .int (nI ro), .int x2, .int x3]) ++ List.replicate (5 - (lg_sl ([.ref (ad 0), .int (nI kd), .int (nI ro), .int x2, .int x3])).length) Slot.unset).toArray = ls at hl ⊢
  have hl : lv_has ls 5 [(0, .ref (ad 0)), (1, .int (nI kd)), (2, .int (nI ro)), (3, .int x2), (4, .int x3)] := hl
  refine lv_iload_n hx hb dX9_ends_0 rfl (lv_at hl 1 rfl) ?_
  refine k_Nv (va_runS (As := [.int (nI kd)]) (rest := []) ⟨hx, hb, hml, hown, hts⟩ (c_X9_checkKind l G z ad M (t := kd) (by omega)) (va_cwS 1 hts (gS (lwg_of t_477 rfl) (lwg_of t_478 rfl) (lwg_of t_1 rfl) (lwg_of t_479 rfl)) rfl rfl rfl (by decide +kernel) ⟨Nat.le_of_ble_eq_true rfl, Nat.le_of_ble_eq_true rfl⟩) hI.preS rfl rfl hl.1 rfl (lv_room (Nat.le_of_ble_eq_true rfl)) dX9_ends_1 ⟨Nat.le_of_ble_eq_true rfl, Nat.le_of_ble_eq_true rfl⟩) hI (fun M_3 H_4 locs_5 hp_2 hI => ?_)
  have eM_6 : M = M_3 := (funext hp_2).symm
  subst eM_6
  refine lv_iload_n hx hb dX9_ends_4 rfl (lv_at hl 2 rfl) ?_
  refine k_Nv (va_runS (As := [.int (nI ro)]) (rest := []) ⟨hx, hb, hml, hown, hts⟩ (c_X9_checkRole l G z ad M (t := ro) (by omega)) (va_cwS 1 hts (gS (lwg_of t_549 rfl) (lwg_of t_550 rfl) (lwg_of t_1 rfl) (lwg_of t_551 rfl)) rfl rfl rfl (by decide +kernel) ⟨Nat.le_of_ble_eq_true rfl, Nat.le_of_ble_eq_true rfl⟩) hI.preS rfl rfl hl.1 rfl (lv_room (Nat.le_of_ble_eq_true rfl)) dX9_ends_5 ⟨Nat.le_of_ble_eq_true rfl, Nat.le_of_ble_eq_true rfl⟩) hI (fun M_9 H_10 locs_11 hp_8 hI => ?_)
  have eM_12 : M = M_9 := (funext hp_8).symm
  subst eM_12
  refine lv_iload_n hx hb dX9_ends_8 rfl (lv_at hl 3 rfl) ?_
  refine lv_if_lt (tgt := 25) hx hb dX9_ends_9 (by decide) (fun c_13 => ?_) (fun c_13 => ?_)
  · -- 9: x2 lt
    exact t_sA hx hb hst hown hts hI (k := 19) (is := 95) rfl tk_A ti_A (by rw [hml]; exact hl.1) dX9_ends_25 dX9_ends_28 dX9_ends_29 dX9_ends_31 dX9_ends_34 hnt (Nat.le_of_ble_eq_true rfl) (Nat.le_of_ble_eq_true rfl) (Nat.le_of_ble_eq_true rfl) (Nat.le_of_ble_eq_true rfl) hlocks (Nat.le_of_ble_eq_true rfl) (Nat.le_of_ble_eq_true rfl)
  · -- 9: x2 ge
    refine lv_iload_n hx hb dX9_ends_12 rfl (lv_at hl 3 rfl) ?_
    refine lv_iload hx hb dX9_ends_13 (lv_at hl 4 rfl) ?_
    refine lv_icmp_gt (tgt := 25) hx hb dX9_ends_15 (by decide) (fun c_14 => ?_) (fun c_14 => ?_)
    · -- 15: x2 gt
      exact t_sA hx hb hst hown hts hI (k := 19) (is := 95) rfl tk_A ti_A (by rw [hml]; exact hl.1) dX9_ends_25 dX9_ends_28 dX9_ends_29 dX9_ends_31 dX9_ends_34 hnt (Nat.le_of_ble_eq_true rfl) (Nat.le_of_ble_eq_true rfl) (Nat.le_of_ble_eq_true rfl) (Nat.le_of_ble_eq_true rfl) hlocks (Nat.le_of_ble_eq_true rfl) (Nat.le_of_ble_eq_true rfl)
    · -- 15: x2 le
      refine lv_iload hx hb dX9_ends_18 (lv_at hl 4 rfl) ?_
      refine lv_bipush (v := nI 6) hx hb dX9_ends_20 (by decide) ?_
      refine lv_icmp_le (tgt := 35) hx hb dX9_ends_22 (by decide) (fun c_15 => ?_) (fun c_15 => ?_)
      · -- 22: x3 le
        rcases hbad with h9 | h9 | h9 <;> first | contradiction | exact absurd h9 (Int32.not_lt.mpr (by assumption))
      · -- 22: x3 gt
        exact t_sA hx hb hst hown hts hI (k := 19) (is := 95) rfl tk_A ti_A (by rw [hml]; exact hl.1) dX9_ends_25 dX9_ends_28 dX9_ends_29 dX9_ends_31 dX9_ends_34 hnt (Nat.le_of_ble_eq_true rfl) (Nat.le_of_ble_eq_true rfl) (Nat.le_of_ble_eq_true rfl) (Nat.le_of_ble_eq_true rfl) hlocks (Nat.le_of_ble_eq_true rfl) (Nat.le_of_ble_eq_true rfl)
