theorem nI_or (a b : Nat) : nI a ||| nI b = nI (a ||| b) := Int32.toBitVec_inj.mp (by show BitVec.ofNat 32 a ||| BitVec.ofNat 32 b = BitVec.ofNat 32 (a ||| b); apply BitVec.eq_of_getLsbD_eq; intro i hi; simp [hi])
theorem nI_and (a b : Nat) : nI a &&& nI b = nI (a &&& b) := Int32.toBitVec_inj.mp (by show BitVec.ofNat 32 a &&& BitVec.ofNat 32 b = BitVec.ofNat 32 (a &&& b); apply BitVec.eq_of_getLsbD_eq; intro i hi; simp [hi])
theorem nI_shl1 : ∀ v, v < 3 → nI 1 <<< (nI v &&& 31) = nI (2 ^ v) := by decide +kernel
theorem bit3 : ∀ u, u < 8 → ∀ v, v < 3 → ((u &&& 2 ^ v = 0 ↔ u.testBit v = false) ∧ (u ||| 2 ^ v) < 8) := by decide +kernel
theorem tbit3 : ∀ u, u < 8 → ∀ v, v < 3 → ((nI u).toUInt32 >>> ((nI v).toUInt32 &&& Int32.toUInt32 31)).toInt32 &&& nI 1 = bI (u.testBit v) := by decide +kernel
def cnt3 (u : Nat) : Nat := (if u.testBit 0 then 1 else 0) + (if u.testBit 1 then 1 else 0) + (if u.testBit 2 then 1 else 0)

/-- X6_atoms -/
abbrev rm_c_X6_atoms : Room := { frames := 0, cells := 0, slots := 0, locals := 0 }
set_option maxHeartbeats 4000000 in
set_option maxRecDepth 100000 in
theorem c_X6_atoms (l : Launch) (G : GG) (z : Nat) (ad : Nat → Nat) (M : Mem) {k : Nat} {aa : Nat} {uv : Nat} (hk : M k = some (cQuestion ad k aa uv))  : Met l yX6_atoms wsX6_atoms rm_c_X6_atoms (Pr G z ad M [.ref (ad k)]) (vp_Si (fun r : Int32 => r = nI aa)) 0 0 (fun _ => False) := by
  refine Met.ofW (cc := cX6_atoms) (maxL := 1) (ret := (some .int)) (by decide) rfl ?_
  intro p e s m args below meth c s₁ B hml hv
  obtain ⟨rfl, hv⟩ := hv
  have hI := Iv.entry hv
  have hx := B.exec
  have hb := B.bytes
  have hr := B.returns
  have hts := atoms_spec (ws := wsX6_atoms) B.pre
  have hown : s.vm.findClass RX6 = some m.cls := findClass_of_methodNamed B.named
  have hlocks := B.notSynchronized
  have i_RX6 : ∀ w ∈ u_ws RX6 TX6 8, w ∈ wsX6_atoms := fun w h => List.mem_cons_of_mem _ (iu_X6 w h)
  have f_31 := hts _ (List.mem_cons_of_mem _ (lwg_of t_195 rfl))
  have hl := lv_entry ([.ref (ad k)]) (n := 1) (Nat.le_of_ble_eq_true rfl)
  rw [lg_entry_eq]
  generalize (lg_sl ([.ref (ad k)]) ++ List.replicate (1 - (lg_sl ([.ref (ad k)])).length) Slot.unset).toArray = ls at hl ⊢
  have hl : lv_has ls 1 [(0, .ref (ad k))] := hl
  refine lv_aload_n hx hb dX6_atoms_0 rfl (lv_at hl 0 rfl) ?_
  refine h_get (C := RX6) (T := TX6) (N := 8) hx hb hts i_RX6 hown hI hk rfl 6 (by decide) f_31 rfl rfl dX6_atoms_1 ?_
  exact e_Ri hx hb hr rfl hlocks (rfl) dX6_atoms_4

/-- X6_kind -/
abbrev rm_c_X6_kind : Room := { frames := 0, cells := 0, slots := 0, locals := 0 }
set_option maxHeartbeats 4000000 in
set_option maxRecDepth 100000 in
theorem c_X6_kind (l : Launch) (G : GG) (z : Nat) (ad : Nat → Nat) (M : Mem) {k : Nat} {aa : Nat} {uv : Nat} {kn : Nat → Nat} {i : Nat} (hk : M k = some (cQuestion ad k aa uv)) (q1 : M (k + 1) = some (aI G 6 (nF kn))) (hi : i < 6) : Met l yX6_kind wsX6_kind rm_c_X6_kind (Pr G z ad M [.ref (ad k), .int (nI i)]) (vp_Si (fun r : Int32 => r = nI (kn i))) 0 0 (fun _ => False) := by
  refine Met.ofW (cc := cX6_kind) (maxL := 2) (ret := (some .int)) (by decide) rfl ?_
  intro p e s m args below meth c s₁ B hml hv
  obtain ⟨rfl, hv⟩ := hv
  have hI := Iv.entry hv
  have hx := B.exec
  have hb := B.bytes
  have hr := B.returns
  have hts := atoms_spec (ws := wsX6_kind) B.pre
  have hown : s.vm.findClass RX6 = some m.cls := findClass_of_methodNamed B.named
  have hlocks := B.notSynchronized
  have i_RX6 : ∀ w ∈ u_ws RX6 TX6 8, w ∈ wsX6_kind := fun w h => List.mem_cons_of_mem _ (iu_X6 w h)
  have f_9 := hts _ (List.mem_cons_of_mem _ (lwg_of t_189 rfl))
  have hl := lv_entry ([.ref (ad k), .int (nI i)]) (n := 2) (Nat.le_of_ble_eq_true rfl)
  rw [lg_entry_eq]
  generalize (lg_sl ([.ref (ad k), .int (nI i)]) ++ List.replicate (2 - (lg_sl ([.ref (ad k), .int (nI i)])).length) Slot.unset).toArray = ls at hl ⊢
  have hl : lv_has ls 2 [(0, .ref (ad k)), (1, .int (nI i))] := hl
  refine lv_aload_n hx hb dX6_kind_0 rfl (lv_at hl 0 rfl) ?_
  refine h_get (C := RX6) (T := TX6) (N := 8) hx hb hts i_RX6 hown hI hk rfl 0 (by decide) f_9 rfl rfl dX6_kind_1 ?_
  refine lv_iload_n hx hb dX6_kind_4 rfl (lv_at hl 1 rfl) ?_
  refine h_iald (i := i) hx hb hI q1 (by omega) (by decide) dX6_kind_5 ?_
  exact e_Ri hx hb hr rfl hlocks (rfl) dX6_kind_6

/-- X6_isNot -/
abbrev rm_c_X6_isNot : Room := { frames := 0, cells := 0, slots := 0, locals := 0 }
set_option maxHeartbeats 4000000 in
set_option maxRecDepth 100000 in
theorem c_X6_isNot (l : Launch) (G : GG) (z : Nat) (ad : Nat → Nat) (M : Mem) {k : Nat} {aa : Nat} {uv : Nat} {nt : Nat → Bool} {i : Nat} (hk : M k = some (cQuestion ad k aa uv)) (q2 : M (k + 2) = some (aZ G 6 (bF nt))) (hi : i < 6) : Met l yX6_isNot wsX6_isNot rm_c_X6_isNot (Pr G z ad M [.ref (ad k), .int (nI i)]) (vp_Si (fun r : Int32 => r = bI (nt i))) 0 0 (fun _ => False) := by
  refine Met.ofW (cc := cX6_isNot) (maxL := 2) (ret := (some .boolean)) (by decide) rfl ?_
  intro p e s m args below meth c s₁ B hml hv
  obtain ⟨rfl, hv⟩ := hv
  have hI := Iv.entry hv
  have hx := B.exec
  have hb := B.bytes
  have hr := B.returns
  have hts := atoms_spec (ws := wsX6_isNot) B.pre
  have hown : s.vm.findClass RX6 = some m.cls := findClass_of_methodNamed B.named
  have hlocks := B.notSynchronized
  have i_RX6 : ∀ w ∈ u_ws RX6 TX6 8, w ∈ wsX6_isNot := fun w h => List.mem_cons_of_mem _ (iu_X6 w h)
  have f_15 := hts _ (List.mem_cons_of_mem _ (lwg_of t_190 rfl))
  have hl := lv_entry ([.ref (ad k), .int (nI i)]) (n := 2) (Nat.le_of_ble_eq_true rfl)
  rw [lg_entry_eq]
  generalize (lg_sl ([.ref (ad k), .int (nI i)]) ++ List.replicate (2 - (lg_sl ([.ref (ad k), .int (nI i)])).length) Slot.unset).toArray = ls at hl ⊢
  have hl : lv_has ls 2 [(0, .ref (ad k)), (1, .int (nI i))] := hl
  refine lv_aload_n hx hb dX6_isNot_0 rfl (lv_at hl 0 rfl) ?_
  refine h_get (C := RX6) (T := TX6) (N := 8) hx hb hts i_RX6 hown hI hk rfl 1 (by decide) f_15 rfl rfl dX6_isNot_1 ?_
  refine lv_iload_n hx hb dX6_isNot_4 rfl (lv_at hl 1 rfl) ?_
  refine h_zald (i := i) hx hb hI q2 (by omega) (by decide) dX6_isNot_5 ?_
  exact e_Ri hx hb hr (bI_nar _) hlocks (rfl) dX6_isNot_6

/-- X6_parts -/
abbrev rm_c_X6_parts : Room := { frames := 0, cells := 0, slots := 0, locals := 0 }
set_option maxHeartbeats 4000000 in
set_option maxRecDepth 100000 in
theorem c_X6_parts (l : Launch) (G : GG) (z : Nat) (ad : Nat → Nat) (M : Mem) {k : Nat} {aa : Nat} {uv : Nat} {pn : Nat → Nat} {i : Nat} (hk : M k = some (cQuestion ad k aa uv)) (q3 : M (k + 3) = some (aI G 6 (nF pn))) (hi : i < 6) : Met l yX6_parts wsX6_parts rm_c_X6_parts (Pr G z ad M [.ref (ad k), .int (nI i)]) (vp_Si (fun r : Int32 => r = nI (pn i))) 0 0 (fun _ => False) := by
  refine Met.ofW (cc := cX6_parts) (maxL := 2) (ret := (some .int)) (by decide) rfl ?_
  intro p e s m args below meth c s₁ B hml hv
  obtain ⟨rfl, hv⟩ := hv
  have hI := Iv.entry hv
  have hx := B.exec
  have hb := B.bytes
  have hr := B.returns
  have hts := atoms_spec (ws := wsX6_parts) B.pre
  have hown : s.vm.findClass RX6 = some m.cls := findClass_of_methodNamed B.named
  have hlocks := B.notSynchronized
  have i_RX6 : ∀ w ∈ u_ws RX6 TX6 8, w ∈ wsX6_parts := fun w h => List.mem_cons_of_mem _ (iu_X6 w h)
  have f_19 := hts _ (List.mem_cons_of_mem _ (lwg_of t_191 rfl))
  have hl := lv_entry ([.ref (ad k), .int (nI i)]) (n := 2) (Nat.le_of_ble_eq_true rfl)
  rw [lg_entry_eq]
  generalize (lg_sl ([.ref (ad k), .int (nI i)]) ++ List.replicate (2 - (lg_sl ([.ref (ad k), .int (nI i)])).length) Slot.unset).toArray = ls at hl ⊢
  have hl : lv_has ls 2 [(0, .ref (ad k)), (1, .int (nI i))] := hl
  refine lv_aload_n hx hb dX6_parts_0 rfl (lv_at hl 0 rfl) ?_
  refine h_get (C := RX6) (T := TX6) (N := 8) hx hb hts i_RX6 hown hI hk rfl 2 (by decide) f_19 rfl rfl dX6_parts_1 ?_
  refine lv_iload_n hx hb dX6_parts_4 rfl (lv_at hl 1 rfl) ?_
  refine h_iald (i := i) hx hb hI q3 (by omega) (by decide) dX6_parts_5 ?_
  exact e_Ri hx hb hr rfl hlocks (rfl) dX6_parts_6

/-- X6_role -/
abbrev rm_c_X6_role : Room := { frames := 0, cells := 0, slots := 0, locals := 0 }
set_option maxHeartbeats 4000000 in
set_option maxRecDepth 100000 in
theorem c_X6_role (l : Launch) (G : GG) (z : Nat) (ad : Nat → Nat) (M : Mem) {k : Nat} {aa : Nat} {uv : Nat} {ro : Nat → Nat} {i : Nat} {j : Nat} (hk : M k = some (cQuestion ad k aa uv)) (q5 : M (k + 5) = some (aI G 24 (nF ro))) (hi : i < 6) (hj : j < 4) : Met l yX6_role wsX6_role rm_c_X6_role (Pr G z ad M [.ref (ad k), .int (nI i), .int (nI j)]) (vp_Si (fun r : Int32 => r = nI (ro (i * 4 + j)))) 0 0 (fun _ => False) := by
  refine Met.ofW (cc := cX6_role) (maxL := 3) (ret := (some .int)) (by decide) rfl ?_
  intro p e s m args below meth c s₁ B hml hv
  obtain ⟨rfl, hv⟩ := hv
  have hI := Iv.entry hv
  have hx := B.exec
  have hb := B.bytes
  have hr := B.returns
  have hts := atoms_spec (ws := wsX6_role) B.pre
  have hown : s.vm.findClass RX6 = some m.cls := findClass_of_methodNamed B.named
  have hlocks := B.notSynchronized
  have i_RX6 : ∀ w ∈ u_ws RX6 TX6 8, w ∈ wsX6_role := fun w h => List.mem_cons_of_mem _ (iu_X6 w h)
  have f_25 := hts _ (List.mem_cons_of_mem _ (lwg_of t_193 rfl))
  have hl := lv_entry ([.ref (ad k), .int (nI i), .int (nI j)]) (n := 3) (Nat.le_of_ble_eq_true rfl)
  rw [lg_entry_eq]
  generalize (lg_sl ([.ref (ad k), .int (nI i), .int (nI j)]) ++ List.replicate (3 - (lg_sl ([.ref (ad k), .int (nI i), .int (nI j)])).length) Slot.unset).toArray = ls at hl ⊢
  have hl : lv_has ls 3 [(0, .ref (ad k)), (1, .int (nI i)), (2, .int (nI j))] := hl
  refine lv_aload_n hx hb dX6_role_0 rfl (lv_at hl 0 rfl) ?_
  refine h_get (C := RX6) (T := TX6) (N := 8) hx hb hts i_RX6 hown hI hk rfl 4 (by decide) f_25 rfl rfl dX6_role_1 ?_
  refine lv_iload_n hx hb dX6_role_4 rfl (lv_at hl 1 rfl) ?_
  refine lv_iconst (v := nI 4) hx hb dX6_role_5 (by decide) ?_
  refine lv_imul hx hb dX6_role_6 ?_
  refine n_eq (pk_mul i 4) ?_
  refine lv_iload_n hx hb dX6_role_7 rfl (lv_at hl 2 rfl) ?_
  refine lv_iadd hx hb dX6_role_8 ?_
  refine n_eq (nI_add (i * 4) j) ?_
  refine h_iald (i := (i * 4) + j) hx hb hI q5 (by omega) (by decide) dX6_role_9 ?_
  exact e_Ri hx hb hr rfl hlocks (rfl) dX6_role_10

/-- X6_term -/
abbrev rm_c_X6_term : Room := { frames := 0, cells := 0, slots := 0, locals := 0 }
set_option maxHeartbeats 4000000 in
set_option maxRecDepth 100000 in
theorem c_X6_term (l : Launch) (G : GG) (z : Nat) (ad : Nat → Nat) (M : Mem) {k : Nat} {aa : Nat} {uv : Nat} {te : Nat → Nat} {i : Nat} {j : Nat} (hk : M k = some (cQuestion ad k aa uv)) (q6 : M (k + 6) = some (aI G 24 (nF te))) (hi : i < 6) (hj : j < 4) : Met l yX6_term wsX6_term rm_c_X6_term (Pr G z ad M [.ref (ad k), .int (nI i), .int (nI j)]) (vp_Si (fun r : Int32 => r = nI (te (i * 4 + j)))) 0 0 (fun _ => False) := by
  refine Met.ofW (cc := cX6_term) (maxL := 3) (ret := (some .int)) (by decide) rfl ?_
  intro p e s m args below meth c s₁ B hml hv
  obtain ⟨rfl, hv⟩ := hv
  have hI := Iv.entry hv
  have hx := B.exec
  have hb := B.bytes
  have hr := B.returns
  have hts := atoms_spec (ws := wsX6_term) B.pre
  have hown : s.vm.findClass RX6 = some m.cls := findClass_of_methodNamed B.named
  have hlocks := B.notSynchronized
  have i_RX6 : ∀ w ∈ u_ws RX6 TX6 8, w ∈ wsX6_term := fun w h => List.mem_cons_of_mem _ (iu_X6 w h)
  have f_28 := hts _ (List.mem_cons_of_mem _ (lwg_of t_194 rfl))
  have hl := lv_entry ([.ref (ad k), .int (nI i), .int (nI j)]) (n := 3) (Nat.le_of_ble_eq_true rfl)
  rw [lg_entry_eq]
  generalize (lg_sl ([.ref (ad k), .int (nI i), .int (nI j)]) ++ List.replicate (3 - (lg_sl ([.ref (ad k), .int (nI i), .int (nI j)])).length) Slot.unset).toArray = ls at hl ⊢
  have hl : lv_has ls 3 [(0, .ref (ad k)), (1, .int (nI i)), (2, .int (nI j))] := hl
  refine lv_aload_n hx hb dX6_term_0 rfl (lv_at hl 0 rfl) ?_
  refine h_get (C := RX6) (T := TX6) (N := 8) hx hb hts i_RX6 hown hI hk rfl 5 (by decide) f_28 rfl rfl dX6_term_1 ?_
  refine lv_iload_n hx hb dX6_term_4 rfl (lv_at hl 1 rfl) ?_
  refine lv_iconst (v := nI 4) hx hb dX6_term_5 (by decide) ?_
  refine lv_imul hx hb dX6_term_6 ?_
  refine n_eq (pk_mul i 4) ?_
  refine lv_iload_n hx hb dX6_term_7 rfl (lv_at hl 2 rfl) ?_
  refine lv_iadd hx hb dX6_term_8 ?_
  refine n_eq (nI_add (i * 4) j) ?_
  refine h_iald (i := (i * 4) + j) hx hb hI q6 (by omega) (by decide) dX6_term_9 ?_
  exact e_Ri hx hb hr rfl hlocks (rfl) dX6_term_10

/-- X6_uses -/
abbrev rm_c_X6_uses : Room := { frames := 0, cells := 0, slots := 0, locals := 0 }
set_option maxHeartbeats 4000000 in
set_option maxRecDepth 100000 in
theorem c_X6_uses (l : Launch) (G : GG) (z : Nat) (ad : Nat → Nat) (M : Mem) {k : Nat} {aa : Nat} {uv : Nat} {v : Nat} (hk : M k = some (cQuestion ad k aa uv)) (huv : uv < 8) (hv3 : v < 3) : Met l yX6_uses wsX6_uses rm_c_X6_uses (Pr G z ad M [.ref (ad k), .int (nI v)]) (vp_Si (fun r : Int32 => r = bI (uv.testBit v))) 0 0 (fun _ => False) := by
  refine Met.ofW (cc := cX6_uses) (maxL := 2) (ret := (some .boolean)) (by decide) rfl ?_
  intro p e s m args below meth c s₁ B hml hv
  obtain ⟨rfl, hv⟩ := hv
  have hI := Iv.entry hv
  have hx := B.exec
  have hb := B.bytes
  have hr := B.returns
  have hts := atoms_spec (ws := wsX6_uses) B.pre
  have hown : s.vm.findClass RX6 = some m.cls := findClass_of_methodNamed B.named
  have hlocks := B.notSynchronized
  have i_RX6 : ∀ w ∈ u_ws RX6 TX6 8, w ∈ wsX6_uses := fun w h => List.mem_cons_of_mem _ (iu_X6 w h)
  have f_35 := hts _ (List.mem_cons_of_mem _ (lwg_of t_196 rfl))
  have hl := lv_entry ([.ref (ad k), .int (nI v)]) (n := 2) (Nat.le_of_ble_eq_true rfl)
  rw [lg_entry_eq]
  generalize (lg_sl ([.ref (ad k), .int (nI v)]) ++ List.replicate (2 - (lg_sl ([.ref (ad k), .int (nI v)])).length) Slot.unset).toArray = ls at hl ⊢
  have hl : lv_has ls 2 [(0, .ref (ad k)), (1, .int (nI v))] := hl
  refine lv_aload_n hx hb dX6_uses_0 rfl (lv_at hl 0 rfl) ?_
  refine h_get (C := RX6) (T := TX6) (N := 8) hx hb hts i_RX6 hown hI hk rfl 7 (by decide) f_35 rfl rfl dX6_uses_1 ?_
  refine lv_iload_n hx hb dX6_uses_4 rfl (lv_at hl 1 rfl) ?_
  refine lv_iushr (v := ((nI uv).toUInt32 >>> ((nI v).toUInt32 &&& Int32.toUInt32 31)).toInt32) hx hb dX6_uses_5 rfl ?_
  refine lv_iconst (v := nI 1) hx hb dX6_uses_6 (by decide) ?_
  refine lv_iand hx hb dX6_uses_7 ?_
  refine n_eq (show _ = bI (uv.testBit v) from tbit3 uv huv v hv3) ?_
  refine lv_if_eq (tgt := 15) hx hb dX6_uses_8 (by decide) (fun c_1 => ?_) (fun c_1 => ?_)
  · -- 8: bI (uv.testBit v) eq
    have c_1 : uv.testBit v = false := bI_f (c_1)
    refine lv_iconst (v := nI 0) hx hb dX6_uses_15 (by decide) ?_
    exact e_Ri hx hb hr rfl hlocks (by rw [show uv.testBit v = false by assumption]; rfl) dX6_uses_16
  · -- 8: bI (uv.testBit v) ne
    have c_1 : uv.testBit v = true := bI_t (c_1)
    refine lv_iconst (v := nI 1) hx hb dX6_uses_11 (by decide) ?_
    refine lv_goto (tgt := 16) hx hb dX6_uses_12 (by decide) ?_
    exact e_Ri hx hb hr rfl hlocks (by rw [show uv.testBit v = true by assumption]; rfl) dX6_uses_16

/-- X6_atomUses -/
abbrev rm_c_X6_atomUses : Room := { frames := 0, cells := 0, slots := 0, locals := 0 }
set_option maxHeartbeats 4000000 in
set_option maxRecDepth 100000 in
theorem c_X6_atomUses (l : Launch) (G : GG) (z : Nat) (ad : Nat → Nat) (M : Mem) {k : Nat} {aa : Nat} {uv : Nat} {av : Nat → Nat} {i : Nat} {v : Nat} (hk : M k = some (cQuestion ad k aa uv)) (q4 : M (k + 4) = some (aI G 6 (nF av))) (hi : i < 6) (hav : av i < 8) (hv3 : v < 3) : Met l yX6_atomUses wsX6_atomUses rm_c_X6_atomUses (Pr G z ad M [.ref (ad k), .int (nI i), .int (nI v)]) (vp_Si (fun r : Int32 => r = bI ((av i).testBit v))) 0 0 (fun _ => False) := by
  refine Met.ofW (cc := cX6_atomUses) (maxL := 3) (ret := (some .boolean)) (by decide) rfl ?_
  intro p e s m args below meth c s₁ B hml hv
  obtain ⟨rfl, hv⟩ := hv
  have hI := Iv.entry hv
  have hx := B.exec
  have hb := B.bytes
  have hr := B.returns
  have hts := atoms_spec (ws := wsX6_atomUses) B.pre
  have hown : s.vm.findClass RX6 = some m.cls := findClass_of_methodNamed B.named
  have hlocks := B.notSynchronized
  have i_RX6 : ∀ w ∈ u_ws RX6 TX6 8, w ∈ wsX6_atomUses := fun w h => List.mem_cons_of_mem _ (iu_X6 w h)
  have f_22 := hts _ (List.mem_cons_of_mem _ (lwg_of t_192 rfl))
  have hl := lv_entry ([.ref (ad k), .int (nI i), .int (nI v)]) (n := 3) (Nat.le_of_ble_eq_true rfl)
  rw [lg_entry_eq]
  generalize (lg_sl ([.ref (ad k), .int (nI i), .int (nI v)]) ++ List.replicate (3 - (lg_sl ([.ref (ad k), .int (nI i), .int (nI v)])).length) Slot.unset).toArray = ls at hl ⊢
  have hl : lv_has ls 3 [(0, .ref (ad k)), (1, .int (nI i)), (2, .int (nI v))] := hl
  refine lv_aload_n hx hb dX6_atomUses_0 rfl (lv_at hl 0 rfl) ?_
  refine h_get (C := RX6) (T := TX6) (N := 8) hx hb hts i_RX6 hown hI hk rfl 3 (by decide) f_22 rfl rfl dX6_atomUses_1 ?_
  refine lv_iload_n hx hb dX6_atomUses_4 rfl (lv_at hl 1 rfl) ?_
  refine h_iald (i := i) hx hb hI q4 (by omega) (by decide) dX6_atomUses_5 ?_
  refine lv_iload_n hx hb dX6_atomUses_6 rfl (lv_at hl 2 rfl) ?_
  refine lv_iushr (v := ((nI (av i)).toUInt32 >>> ((nI v).toUInt32 &&& Int32.toUInt32 31)).toInt32) hx hb dX6_atomUses_7 rfl ?_
  refine lv_iconst (v := nI 1) hx hb dX6_atomUses_8 (by decide) ?_
  refine lv_iand hx hb dX6_atomUses_9 ?_
  refine n_eq (show _ = bI ((av i).testBit v) from tbit3 (av i) hav v hv3) ?_
  refine lv_if_eq (tgt := 17) hx hb dX6_atomUses_10 (by decide) (fun c_1 => ?_) (fun c_1 => ?_)
  · -- 10: bI ((av i).testBit v) eq
    have c_1 : (av i).testBit v = false := bI_f (c_1)
    refine lv_iconst (v := nI 0) hx hb dX6_atomUses_17 (by decide) ?_
    exact e_Ri hx hb hr rfl hlocks (by rw [show (av i).testBit v = false by assumption]; rfl) dX6_atomUses_18
  · -- 10: bI ((av i).testBit v) ne
    have c_1 : (av i).testBit v = true := bI_t (c_1)
    refine lv_iconst (v := nI 1) hx hb dX6_atomUses_13 (by decide) ?_
    refine lv_goto (tgt := 18) hx hb dX6_atomUses_14 (by decide) ?_
    exact e_Ri hx hb hr rfl hlocks (by rw [show (av i).testBit v = true by assumption]; rfl) dX6_atomUses_18

/-- X6_clear -/
abbrev rm_c_X6_clear : Room := { frames := 0, cells := 0, slots := 0, locals := 0 }
set_option maxHeartbeats 4000000 in
set_option maxRecDepth 100000 in
theorem c_X6_clear (l : Launch) (G : GG) (z : Nat) (ad : Nat → Nat) (M : Mem) {k : Nat} {aa : Nat} {uv : Nat} (hk : M k = some (cQuestion ad k aa uv))  : Met l yX6_clear wsX6_clear rm_c_X6_clear (Pr G z ad M [.ref (ad k)]) (Nv G z ad (fun (M' : Mem) => M' k = some (cQuestion ad k 0 0) ∧ (∀ j : Nat, j ≠ k → M' j = M j))) 0 0 (fr z) := by
  refine Met.ofW (cc := cX6_clear) (maxL := 1) (ret := none) (by decide) rfl ?_
  intro p e s m args below meth c s₁ B hml hv
  obtain ⟨rfl, hv⟩ := hv
  have hI := Iv.entry hv
  have hx := B.exec
  have hb := B.bytes
  have hr := B.returns
  have hts := atoms_spec (ws := wsX6_clear) B.pre
  have hown : s.vm.findClass RX6 = some m.cls := findClass_of_methodNamed B.named
  have hlocks := B.notSynchronized
  have f_31 := hts _ (List.mem_cons_of_mem _ (lwg_of t_195 rfl))
  have i_RX6 : ∀ w ∈ u_ws RX6 TX6 8, w ∈ wsX6_clear := fun w h => List.mem_cons_of_mem _ (iu_X6 w h)
  have f_35 := hts _ (List.mem_cons_of_mem _ (lwg_of t_196 rfl))
  have hl := lv_entry ([.ref (ad k)]) (n := 1) (Nat.le_of_ble_eq_true rfl)
  rw [lg_entry_eq]
  generalize (lg_sl ([.ref (ad k)]) ++ List.replicate (1 - (lg_sl ([.ref (ad k)])).length) Slot.unset).toArray = ls at hl ⊢
  have hl : lv_has ls 1 [(0, .ref (ad k))] := hl
  refine lv_aload_n hx hb dX6_clear_0 rfl (lv_at hl 0 rfl) ?_
  refine lv_iconst (v := nI 0) hx hb dX6_clear_1 (by decide) ?_
  refine h_put (C := RX6) (T := TX6) (N := 8) hx hb hts i_RX6 tyX6 tyX6_ok nmX6 hown hI hk rfl 6 (by decide) f_31 rfl rfl rfl rfl (Nat.le_of_ble_eq_true rfl) dX6_clear_2 (fun M_1 H_2 locs_3 eM_4 hI => ?_)
  have hm_5 : M_1 k = some (cQuestion ad k 0 uv) := by rw [eM_4]; exact va_up_self _ _ _
  have hF_6 : ∀ j : Nat, j ≠ k → M_1 j = M j := fun j q0 => by rw [eM_4, va_up_ne _ _ q0]
  refine lv_aload_n hx hb dX6_clear_5 rfl (lv_at hl 0 rfl) ?_
  refine lv_iconst (v := nI 0) hx hb dX6_clear_6 (by decide) ?_
  refine h_put (C := RX6) (T := TX6) (N := 8) hx hb hts i_RX6 tyX6 tyX6_ok nmX6 hown hI hm_5 rfl 7 (by decide) f_35 rfl rfl rfl rfl (Nat.le_of_ble_eq_true rfl) dX6_clear_7 (fun M_7 H_8 locs_9 eM_10 hI => ?_)
  have hm_11 : M_7 k = some (cQuestion ad k 0 0) := by rw [eM_10]; exact va_up_self _ _ _
  have hF_12 : ∀ j : Nat, j ≠ k → M_7 j = M j := fun j q0 => by rw [eM_10, va_up_ne _ _ q0]; exact hF_6 j q0
  exact e_Nv hx hb hr hlocks hI ⟨hm_11, (fun j q0 => hF_12 j q0)⟩ dX6_clear_10

/-- X6_addAtom -/
abbrev rm_c_X6_addAtom : Room := { frames := 0, cells := 0, slots := 0, locals := 0 }
set_option maxHeartbeats 4000000 in
set_option maxRecDepth 100000 in
theorem c_X6_addAtom (l : Launch) (G : GG) (z : Nat) (ad : Nat → Nat) (M : Mem) {k : Nat} {aa : Nat} {uv : Nat} {kn : Nat → Nat} {nt : Nat → Bool} {pn : Nat → Nat} {av : Nat → Nat} {x : Nat} {b : Bool} (hk : M k = some (cQuestion ad k aa uv)) (q1 : M (k + 1) = some (aI G 6 (nF kn))) (q2 : M (k + 2) = some (aZ G 6 (bF nt))) (q3 : M (k + 3) = some (aI G 6 (nF pn))) (q4 : M (k + 4) = some (aI G 6 (nF av))) (haa : aa < 6) : Met l yX6_addAtom wsX6_addAtom rm_c_X6_addAtom (Pr G z ad M [.ref (ad k), .int (nI x), .int (bI b)]) (Ni G z ad (fun (r : Int32) (M' : Mem) => r = nI 1 ∧ M' k = some (cQuestion ad k (aa + 1) uv) ∧ M' (k + 1) = some (aI G 6 (nF (va_up kn aa x))) ∧ M' (k + 2) = some (aZ G 6 (bF (va_up nt aa b))) ∧ M' (k + 3) = some (aI G 6 (nF (va_up pn aa 0))) ∧ M' (k + 4) = some (aI G 6 (nF (va_up av aa 0))) ∧ (∀ j : Nat, j ≠ k → j ≠ (k + 1) → j ≠ (k + 2) → j ≠ (k + 3) → j ≠ (k + 4) → M' j = M j))) 0 0 (fr z) := by
  refine Met.ofW (cc := cX6_addAtom) (maxL := 3) (ret := (some .boolean)) (by decide) rfl ?_
  intro p e s m args below meth c s₁ B hml hv
  obtain ⟨rfl, hv⟩ := hv
  have hI := Iv.entry hv
  have hx := B.exec
  have hb := B.bytes
  have hr := B.returns
  have hts := atoms_spec (ws := wsX6_addAtom) B.pre
  have hown : s.vm.findClass RX6 = some m.cls := findClass_of_methodNamed B.named
  have hlocks := B.notSynchronized
  have i_RX6 : ∀ w ∈ u_ws RX6 TX6 8, w ∈ wsX6_addAtom := fun w h => List.mem_cons_of_mem _ (iu_X6 w h)
  have f_31 := hts _ (List.mem_cons_of_mem _ (lwg_of t_195 rfl))
  have f_9 := hts _ (List.mem_cons_of_mem _ (lwg_of t_189 rfl))
  have f_15 := hts _ (List.mem_cons_of_mem _ (lwg_of t_190 rfl))
  have f_19 := hts _ (List.mem_cons_of_mem _ (lwg_of t_191 rfl))
  have f_22 := hts _ (List.mem_cons_of_mem _ (lwg_of t_192 rfl))
  have hl := lv_entry ([.ref (ad k), .int (nI x), .int (bI b)]) (n := 3) (Nat.le_of_ble_eq_true rfl)
  rw [lg_entry_eq]
  generalize (lg_sl ([.ref (ad k), .int (nI x), .int (bI b)]) ++ List.replicate (3 - (lg_sl ([.ref (ad k), .int (nI x), .int (bI b)])).length) Slot.unset).toArray = ls at hl ⊢
  have hl : lv_has ls 3 [(0, .ref (ad k)), (1, .int (nI x)), (2, .int (bI b))] := hl
  refine lv_aload_n hx hb dX6_addAtom_0 rfl (lv_at hl 0 rfl) ?_
  refine h_get (C := RX6) (T := TX6) (N := 8) hx hb hts i_RX6 hown hI hk rfl 6 (by decide) f_31 rfl rfl dX6_addAtom_1 ?_
  refine lv_bipush (v := nI 6) hx hb dX6_addAtom_4 (by decide) ?_
  refine lv_icmp_lt (tgt := 11) hx hb dX6_addAtom_6 (by decide) (fun c_1 => ?_) (fun c_1 => ?_)
  · -- 6: nI aa lt
    have c_1 : aa < 6 := (nI_ltI (a := aa) (b := 6) (by omega) (by omega)).mp (c_1)
    refine lv_aload_n hx hb dX6_addAtom_11 rfl (lv_at hl 0 rfl) ?_
    refine h_get (C := RX6) (T := TX6) (N := 8) hx hb hts i_RX6 hown hI hk rfl 0 (by decide) f_9 rfl rfl dX6_addAtom_12 ?_
    refine lv_aload_n hx hb dX6_addAtom_15 rfl (lv_at hl 0 rfl) ?_
    refine h_get (C := RX6) (T := TX6) (N := 8) hx hb hts i_RX6 hown hI hk rfl 6 (by decide) f_31 rfl rfl dX6_addAtom_16 ?_
    refine lv_iload_n hx hb dX6_addAtom_19 rfl (lv_at hl 1 rfl) ?_
    refine h_iast (i := aa) (x := nI x) hx hb hI q1 (by omega) (by decide) dX6_addAtom_20 (fun M_2 H_3 locs_4 eM_5 hI => ?_)
    rw [upd_nF] at eM_5
    have hm_6 : M_2 k = some (cQuestion ad k aa uv) := by rw [eM_5, va_up_ne _ _ (by omega)]; exact hk
    have hm_7 : M_2 (k + 1) = some (aI G 6 (nF (va_up kn aa x))) := by rw [eM_5]; exact va_up_self _ _ _
    have hm_8 : M_2 (k + 2) = some (aZ G 6 (bF nt)) := by rw [eM_5, va_up_ne _ _ (by omega)]; exact q2
    have hm_9 : M_2 (k + 3) = some (aI G 6 (nF pn)) := by rw [eM_5, va_up_ne _ _ (by omega)]; exact q3
    have hm_10 : M_2 (k + 4) = some (aI G 6 (nF av)) := by rw [eM_5, va_up_ne _ _ (by omega)]; exact q4
    have hF_11 : ∀ j : Nat, j ≠ (k + 1) → M_2 j = M j := fun j q0 => by rw [eM_5, va_up_ne _ _ q0]
    refine lv_aload_n hx hb dX6_addAtom_21 rfl (lv_at hl 0 rfl) ?_
    refine h_get (C := RX6) (T := TX6) (N := 8) hx hb hts i_RX6 hown hI hm_6 rfl 1 (by decide) f_15 rfl rfl dX6_addAtom_22 ?_
    refine lv_aload_n hx hb dX6_addAtom_25 rfl (lv_at hl 0 rfl) ?_
    refine h_get (C := RX6) (T := TX6) (N := 8) hx hb hts i_RX6 hown hI hm_6 rfl 6 (by decide) f_31 rfl rfl dX6_addAtom_26 ?_
    refine lv_iload_n hx hb dX6_addAtom_29 rfl (lv_at hl 2 rfl) ?_
    refine h_zast (i := aa) (x := bI b) hx hb hI hm_8 (by omega) (by decide) (bI_vnar _) dX6_addAtom_30 (fun M_12 H_13 locs_14 eM_15 hI => ?_)
    rw [upd_bF] at eM_15
    have hm_16 : M_12 k = some (cQuestion ad k aa uv) := by rw [eM_15, va_up_ne _ _ (by omega)]; exact hm_6
    have hm_17 : M_12 (k + 1) = some (aI G 6 (nF (va_up kn aa x))) := by rw [eM_15, va_up_ne _ _ (by omega)]; exact hm_7
    have hm_18 : M_12 (k + 2) = some (aZ G 6 (bF (va_up nt aa b))) := by rw [eM_15]; exact va_up_self _ _ _
    have hm_19 : M_12 (k + 3) = some (aI G 6 (nF pn)) := by rw [eM_15, va_up_ne _ _ (by omega)]; exact hm_9
    have hm_20 : M_12 (k + 4) = some (aI G 6 (nF av)) := by rw [eM_15, va_up_ne _ _ (by omega)]; exact hm_10
    have hF_21 : ∀ j : Nat, j ≠ (k + 1) → j ≠ (k + 2) → M_12 j = M j := fun j q0 q1 => by rw [eM_15, va_up_ne _ _ q1]; exact hF_11 j q0
    refine lv_aload_n hx hb dX6_addAtom_31 rfl (lv_at hl 0 rfl) ?_
    refine h_get (C := RX6) (T := TX6) (N := 8) hx hb hts i_RX6 hown hI hm_16 rfl 2 (by decide) f_19 rfl rfl dX6_addAtom_32 ?_
    refine lv_aload_n hx hb dX6_addAtom_35 rfl (lv_at hl 0 rfl) ?_
    refine h_get (C := RX6) (T := TX6) (N := 8) hx hb hts i_RX6 hown hI hm_16 rfl 6 (by decide) f_31 rfl rfl dX6_addAtom_36 ?_
    refine lv_iconst (v := nI 0) hx hb dX6_addAtom_39 (by decide) ?_
    refine h_iast (i := aa) (x := nI 0) hx hb hI hm_19 (by omega) (by decide) dX6_addAtom_40 (fun M_22 H_23 locs_24 eM_25 hI => ?_)
    rw [upd_nF] at eM_25
    have hm_26 : M_22 k = some (cQuestion ad k aa uv) := by rw [eM_25, va_up_ne _ _ (by omega)]; exact hm_16
    have hm_27 : M_22 (k + 1) = some (aI G 6 (nF (va_up kn aa x))) := by rw [eM_25, va_up_ne _ _ (by omega)]; exact hm_17
    have hm_28 : M_22 (k + 2) = some (aZ G 6 (bF (va_up nt aa b))) := by rw [eM_25, va_up_ne _ _ (by omega)]; exact hm_18
    have hm_29 : M_22 (k + 3) = some (aI G 6 (nF (va_up pn aa 0))) := by rw [eM_25]; exact va_up_self _ _ _
    have hm_30 : M_22 (k + 4) = some (aI G 6 (nF av)) := by rw [eM_25, va_up_ne _ _ (by omega)]; exact hm_20
    have hF_31 : ∀ j : Nat, j ≠ (k + 1) → j ≠ (k + 2) → j ≠ (k + 3) → M_22 j = M j := fun j q0 q1 q2 => by rw [eM_25, va_up_ne _ _ q2]; exact hF_21 j q0 q1
    refine lv_aload_n hx hb dX6_addAtom_41 rfl (lv_at hl 0 rfl) ?_
    refine h_get (C := RX6) (T := TX6) (N := 8) hx hb hts i_RX6 hown hI hm_26 rfl 3 (by decide) f_22 rfl rfl dX6_addAtom_42 ?_
    refine lv_aload_n hx hb dX6_addAtom_45 rfl (lv_at hl 0 rfl) ?_
    refine h_get (C := RX6) (T := TX6) (N := 8) hx hb hts i_RX6 hown hI hm_26 rfl 6 (by decide) f_31 rfl rfl dX6_addAtom_46 ?_
    refine lv_iconst (v := nI 0) hx hb dX6_addAtom_49 (by decide) ?_
    refine h_iast (i := aa) (x := nI 0) hx hb hI hm_30 (by omega) (by decide) dX6_addAtom_50 (fun M_32 H_33 locs_34 eM_35 hI => ?_)
    rw [upd_nF] at eM_35
    have hm_36 : M_32 k = some (cQuestion ad k aa uv) := by rw [eM_35, va_up_ne _ _ (by omega)]; exact hm_26
    have hm_37 : M_32 (k + 1) = some (aI G 6 (nF (va_up kn aa x))) := by rw [eM_35, va_up_ne _ _ (by omega)]; exact hm_27
    have hm_38 : M_32 (k + 2) = some (aZ G 6 (bF (va_up nt aa b))) := by rw [eM_35, va_up_ne _ _ (by omega)]; exact hm_28
    have hm_39 : M_32 (k + 3) = some (aI G 6 (nF (va_up pn aa 0))) := by rw [eM_35, va_up_ne _ _ (by omega)]; exact hm_29
    have hm_40 : M_32 (k + 4) = some (aI G 6 (nF (va_up av aa 0))) := by rw [eM_35]; exact va_up_self _ _ _
    have hF_41 : ∀ j : Nat, j ≠ (k + 1) → j ≠ (k + 2) → j ≠ (k + 3) → j ≠ (k + 4) → M_32 j = M j := fun j q0 q1 q2 q3 => by rw [eM_35, va_up_ne _ _ q3]; exact hF_31 j q0 q1 q2
    refine lv_aload_n hx hb dX6_addAtom_51 rfl (lv_at hl 0 rfl) ?_
    refine lv_dup hx hb dX6_addAtom_52 rfl ?_
    refine h_get (C := RX6) (T := TX6) (N := 8) hx hb hts i_RX6 hown hI hm_36 rfl 6 (by decide) f_31 rfl rfl dX6_addAtom_53 ?_
    refine lv_iconst (v := nI 1) hx hb dX6_addAtom_56 (by decide) ?_
    refine lv_iadd hx hb dX6_addAtom_57 ?_
    refine n_eq (nI_add aa 1) ?_
    refine h_put (C := RX6) (T := TX6) (N := 8) hx hb hts i_RX6 tyX6 tyX6_ok nmX6 hown hI hm_36 rfl 6 (by decide) f_31 rfl rfl rfl rfl (Nat.le_of_ble_eq_true rfl) dX6_addAtom_58 (fun M_42 H_43 locs_44 eM_45 hI => ?_)
    have hm_46 : M_42 k = some (cQuestion ad k (aa + 1) uv) := by rw [eM_45]; exact va_up_self _ _ _
    have hm_47 : M_42 (k + 1) = some (aI G 6 (nF (va_up kn aa x))) := by rw [eM_45, va_up_ne _ _ (by omega)]; exact hm_37
    have hm_48 : M_42 (k + 2) = some (aZ G 6 (bF (va_up nt aa b))) := by rw [eM_45, va_up_ne _ _ (by omega)]; exact hm_38
    have hm_49 : M_42 (k + 3) = some (aI G 6 (nF (va_up pn aa 0))) := by rw [eM_45, va_up_ne _ _ (by omega)]; exact hm_39
    have hm_50 : M_42 (k + 4) = some (aI G 6 (nF (va_up av aa 0))) := by rw [eM_45, va_up_ne _ _ (by omega)]; exact hm_40
    have hF_51 : ∀ j : Nat, j ≠ (k + 1) → j ≠ (k + 2) → j ≠ (k + 3) → j ≠ (k + 4) → j ≠ k → M_42 j = M j := fun j q0 q1 q2 q3 q4 => by rw [eM_45, va_up_ne _ _ q4]; exact hF_41 j q0 q1 q2 q3
    refine lv_iconst (v := nI 1) hx hb dX6_addAtom_61 (by decide) ?_
    exact e_Ni hx hb hr rfl hlocks hI ⟨rfl, hm_46, hm_47, hm_48, hm_49, hm_50, (fun j q0 q1 q2 q3 q4 => hF_51 j q1 q2 q3 q4 q0)⟩ dX6_addAtom_62
  · -- 6: nI aa ge
    have c_1 : 6 ≤ aa := by have h := mt (nI_ltI (a := aa) (b := 6) (by omega) (by omega)).mpr c_1; omega
    omega

/-- X6_addPart -/
abbrev rm_c_X6_addPart_t : Room := { frames := 0, cells := 0, slots := 0, locals := 0 }
set_option maxHeartbeats 4000000 in
set_option maxRecDepth 100000 in
theorem c_X6_addPart_t (l : Launch) (G : GG) (z : Nat) (ad : Nat → Nat) (M : Mem) {k : Nat} {aa : Nat} {uv : Nat} {pn : Nat → Nat} {ro : Nat → Nat} {te : Nat → Nat} {x : Nat} {t : Nat} (hk : M k = some (cQuestion ad k aa uv)) (q3 : M (k + 3) = some (aI G 6 (nF pn))) (q5 : M (k + 5) = some (aI G 24 (nF ro))) (q6 : M (k + 6) = some (aI G 24 (nF te))) (haa : 0 < aa ∧ aa ≤ 6) (hpn : pn (aa - 1) < 4) (ht : t < 40) : Met l yX6_addPart wsX6_addPart rm_c_X6_addPart_t (Pr G z ad M [.ref (ad k), .int (nI x), .int (nI t)]) (Ni G z ad (fun (r : Int32) (M' : Mem) => r = nI 1 ∧ M' (k + 3) = some (aI G 6 (nF (va_up pn (aa - 1) (pn (aa - 1) + 1)))) ∧ M' (k + 5) = some (aI G 24 (nF (va_up ro ((aa - 1) * 4 + pn (aa - 1)) x))) ∧ M' (k + 6) = some (aI G 24 (nF (va_up te ((aa - 1) * 4 + pn (aa - 1)) t))) ∧ (∀ j : Nat, j ≠ (k + 3) → j ≠ (k + 5) → j ≠ (k + 6) → M' j = M j))) 0 0 (fr z) := by
  refine Met.ofW (cc := cX6_addPart) (maxL := 5) (ret := (some .boolean)) (by decide) rfl ?_
  intro p e s m args below meth c s₁ B hml hv
  obtain ⟨rfl, hv⟩ := hv
  have hI := Iv.entry hv
  have hx := B.exec
  have hb := B.bytes
  have hr := B.returns
  have hts := atoms_spec (ws := wsX6_addPart) B.pre
  have hown : s.vm.findClass RX6 = some m.cls := findClass_of_methodNamed B.named
  have hlocks := B.notSynchronized
  have i_RX6 : ∀ w ∈ u_ws RX6 TX6 8, w ∈ wsX6_addPart := fun w h => List.mem_cons_of_mem _ (iu_X6 w h)
  have f_31 := hts _ (List.mem_cons_of_mem _ (lwg_of t_195 rfl))
  have f_19 := hts _ (List.mem_cons_of_mem _ (lwg_of t_191 rfl))
  have f_25 := hts _ (List.mem_cons_of_mem _ (lwg_of t_193 rfl))
  have f_28 := hts _ (List.mem_cons_of_mem _ (lwg_of t_194 rfl))
  have hl := lv_entry ([.ref (ad k), .int (nI x), .int (nI t)]) (n := 5) (Nat.le_of_ble_eq_true rfl)
  rw [lg_entry_eq]
  generalize (lg_sl ([.ref (ad k), .int (nI x), .int (nI t)]) ++ List.replicate (5 - (lg_sl ([.ref (ad k), .int (nI x), .int (nI t)])).length) Slot.unset).toArray = ls at hl ⊢
  have hl : lv_has ls 5 [(0, .ref (ad k)), (1, .int (nI x)), (2, .int (nI t))] := hl
  refine lv_aload_n hx hb dX6_addPart_0 rfl (lv_at hl 0 rfl) ?_
  refine h_get (C := RX6) (T := TX6) (N := 8) hx hb hts i_RX6 hown hI hk rfl 6 (by decide) f_31 rfl rfl dX6_addPart_1 ?_
  refine lv_iconst (v := nI 1) hx hb dX6_addPart_4 (by decide) ?_
  refine lv_isub hx hb dX6_addPart_5 ?_
  refine n_eq (pk_sub (a := aa) (b := 1) (by omega)) ?_
  refine lv_istore_n (lv' := [(3, .int (nI (aa - 1))), (0, .ref (ad k)), (1, .int (nI x)), (2, .int (nI t))]) hx hb dX6_addPart_6 rfl hl (by decide) rfl (fun ls hl => ?_)
  refine lv_iload_n hx hb dX6_addPart_7 rfl (lv_at hl 0 rfl) ?_
  refine lv_if_lt (tgt := 21) hx hb dX6_addPart_8 (by decide) (fun c_1 => ?_) (fun c_1 => ?_)
  · -- 8: nI (aa - 1) lt
    have c_1 : aa - 1 < 0 := (nI_ltI (a := aa - 1) (b := 0) (by omega) (by omega)).mp (c_1)
    omega
  · -- 8: nI (aa - 1) ge
    have c_1 : 0 ≤ aa - 1 := by have h := mt (nI_ltI (a := aa - 1) (b := 0) (by omega) (by omega)).mpr c_1; omega
    refine lv_aload_n hx hb dX6_addPart_11 rfl (lv_at hl 1 rfl) ?_
    refine h_get (C := RX6) (T := TX6) (N := 8) hx hb hts i_RX6 hown hI hk rfl 2 (by decide) f_19 rfl rfl dX6_addPart_12 ?_
    refine lv_iload_n hx hb dX6_addPart_15 rfl (lv_at hl 0 rfl) ?_
    refine h_iald (i := aa - 1) hx hb hI q3 (by omega) (by decide) dX6_addPart_16 ?_
    refine lv_iconst (v := nI 4) hx hb dX6_addPart_17 (by decide) ?_
    refine lv_icmp_lt (tgt := 23) hx hb dX6_addPart_18 (by decide) (fun c_2 => ?_) (fun c_2 => ?_)
    · -- 18: nI (pn (aa - 1)) lt
      have c_2 : pn (aa - 1) < 4 := (nI_ltI (a := pn (aa - 1)) (b := 4) (by omega) (by omega)).mp (c_2)
      refine lv_iload_n hx hb dX6_addPart_23 rfl (lv_at hl 3 rfl) ?_
      refine lv_bipush (v := nI 40) hx hb dX6_addPart_24 (by decide) ?_
      refine lv_icmp_lt (tgt := 80) hx hb dX6_addPart_26 (by decide) (fun c_3 => ?_) (fun c_3 => ?_)
      · -- 26: nI t lt
        have c_3 : t < 40 := (nI_ltI (a := t) (b := 40) (by omega) (by omega)).mp (c_3)
        refine lv_iload_n hx hb dX6_addPart_80 rfl (lv_at hl 0 rfl) ?_
        refine lv_iconst (v := nI 4) hx hb dX6_addPart_81 (by decide) ?_
        refine lv_imul hx hb dX6_addPart_82 ?_
        refine n_eq (pk_mul (aa - 1) 4) ?_
        refine lv_aload_n hx hb dX6_addPart_83 rfl (lv_at hl 1 rfl) ?_
        refine h_get (C := RX6) (T := TX6) (N := 8) hx hb hts i_RX6 hown hI hk rfl 2 (by decide) f_19 rfl rfl dX6_addPart_84 ?_
        refine lv_iload_n hx hb dX6_addPart_87 rfl (lv_at hl 0 rfl) ?_
        refine h_iald (i := aa - 1) hx hb hI q3 (by omega) (by decide) dX6_addPart_88 ?_
        refine lv_iadd hx hb dX6_addPart_89 ?_
        refine n_eq (nI_add ((aa - 1) * 4) (pn (aa - 1))) ?_
        refine lv_istore (lv' := [(4, .int (nI (((aa - 1) * 4) + (pn (aa - 1))))), (3, .int (nI (aa - 1))), (0, .ref (ad k)), (1, .int (nI x)), (2, .int (nI t))]) hx hb dX6_addPart_90 hl (by decide) rfl (fun ls hl => ?_)
        refine lv_aload_n hx hb dX6_addPart_92 rfl (lv_at hl 2 rfl) ?_
        refine h_get (C := RX6) (T := TX6) (N := 8) hx hb hts i_RX6 hown hI hk rfl 4 (by decide) f_25 rfl rfl dX6_addPart_93 ?_
        refine lv_iload hx hb dX6_addPart_96 (lv_at hl 0 rfl) ?_
        refine lv_iload_n hx hb dX6_addPart_98 rfl (lv_at hl 3 rfl) ?_
        refine h_iast (i := ((aa - 1) * 4) + (pn (aa - 1))) (x := nI x) hx hb hI q5 (by omega) (by decide) dX6_addPart_99 (fun M_4 H_5 locs_6 eM_7 hI => ?_)
        rw [upd_nF] at eM_7
        have hm_8 : M_4 k = some (cQuestion ad k aa uv) := by rw [eM_7, va_up_ne _ _ (by omega)]; exact hk
        have hm_9 : M_4 (k + 3) = some (aI G 6 (nF pn)) := by rw [eM_7, va_up_ne _ _ (by omega)]; exact q3
        have hm_10 : M_4 (k + 5) = some (aI G 24 (nF (va_up ro (((aa - 1) * 4) + (pn (aa - 1))) x))) := by rw [eM_7]; exact va_up_self _ _ _
        have hm_11 : M_4 (k + 6) = some (aI G 24 (nF te)) := by rw [eM_7, va_up_ne _ _ (by omega)]; exact q6
        have hF_12 : ∀ j : Nat, j ≠ (k + 5) → M_4 j = M j := fun j q0 => by rw [eM_7, va_up_ne _ _ q0]
        refine lv_aload_n hx hb dX6_addPart_100 rfl (lv_at hl 2 rfl) ?_
        refine h_get (C := RX6) (T := TX6) (N := 8) hx hb hts i_RX6 hown hI hm_8 rfl 5 (by decide) f_28 rfl rfl dX6_addPart_101 ?_
        refine lv_iload hx hb dX6_addPart_104 (lv_at hl 0 rfl) ?_
        refine lv_iload_n hx hb dX6_addPart_106 rfl (lv_at hl 4 rfl) ?_
        refine h_iast (i := ((aa - 1) * 4) + (pn (aa - 1))) (x := nI t) hx hb hI hm_11 (by omega) (by decide) dX6_addPart_107 (fun M_13 H_14 locs_15 eM_16 hI => ?_)
        rw [upd_nF] at eM_16
        have hm_17 : M_13 k = some (cQuestion ad k aa uv) := by rw [eM_16, va_up_ne _ _ (by omega)]; exact hm_8
        have hm_18 : M_13 (k + 3) = some (aI G 6 (nF pn)) := by rw [eM_16, va_up_ne _ _ (by omega)]; exact hm_9
        have hm_19 : M_13 (k + 5) = some (aI G 24 (nF (va_up ro (((aa - 1) * 4) + (pn (aa - 1))) x))) := by rw [eM_16, va_up_ne _ _ (by omega)]; exact hm_10
        have hm_20 : M_13 (k + 6) = some (aI G 24 (nF (va_up te (((aa - 1) * 4) + (pn (aa - 1))) t))) := by rw [eM_16]; exact va_up_self _ _ _
        have hF_21 : ∀ j : Nat, j ≠ (k + 5) → j ≠ (k + 6) → M_13 j = M j := fun j q0 q1 => by rw [eM_16, va_up_ne _ _ q1]; exact hF_12 j q0
        refine lv_aload_n hx hb dX6_addPart_108 rfl (lv_at hl 2 rfl) ?_
        refine h_get (C := RX6) (T := TX6) (N := 8) hx hb hts i_RX6 hown hI hm_17 rfl 2 (by decide) f_19 rfl rfl dX6_addPart_109 ?_
        refine lv_iload_n hx hb dX6_addPart_112 rfl (lv_at hl 1 rfl) ?_
        refine lv_dup2_11 hx hb dX6_addPart_113 rfl rfl ?_
        refine h_iald (i := aa - 1) hx hb hI hm_18 (by omega) (by decide) dX6_addPart_114 ?_
        refine lv_iconst (v := nI 1) hx hb dX6_addPart_115 (by decide) ?_
        refine lv_iadd hx hb dX6_addPart_116 ?_
        refine n_eq (nI_add (pn (aa - 1)) 1) ?_
        refine h_iast (i := aa - 1) (x := nI ((pn (aa - 1)) + 1)) hx hb hI hm_18 (by omega) (by decide) dX6_addPart_117 (fun M_22 H_23 locs_24 eM_25 hI => ?_)
        rw [upd_nF] at eM_25
        have hm_26 : M_22 k = some (cQuestion ad k aa uv) := by rw [eM_25, va_up_ne _ _ (by omega)]; exact hm_17
        have hm_27 : M_22 (k + 3) = some (aI G 6 (nF (va_up pn (aa - 1) ((pn (aa - 1)) + 1)))) := by rw [eM_25]; exact va_up_self _ _ _
        have hm_28 : M_22 (k + 5) = some (aI G 24 (nF (va_up ro (((aa - 1) * 4) + (pn (aa - 1))) x))) := by rw [eM_25, va_up_ne _ _ (by omega)]; exact hm_19
        have hm_29 : M_22 (k + 6) = some (aI G 24 (nF (va_up te (((aa - 1) * 4) + (pn (aa - 1))) t))) := by rw [eM_25, va_up_ne _ _ (by omega)]; exact hm_20
        have hF_30 : ∀ j : Nat, j ≠ (k + 5) → j ≠ (k + 6) → j ≠ (k + 3) → M_22 j = M j := fun j q0 q1 q2 => by rw [eM_25, va_up_ne _ _ q2]; exact hF_21 j q0 q1
        refine lv_iconst (v := nI 1) hx hb dX6_addPart_118 (by decide) ?_
        exact e_Ni hx hb hr rfl hlocks hI ⟨rfl, hm_27, hm_28, hm_29, (fun j q0 q1 q2 => hF_30 j q1 q2 q0)⟩ dX6_addPart_119
      · -- 26: nI t ge
        have c_3 : 40 ≤ t := by have h := mt (nI_ltI (a := t) (b := 40) (by omega) (by omega)).mpr c_3; omega
        omega
    · -- 18: nI (pn (aa - 1)) ge
      have c_2 : 4 ≤ pn (aa - 1) := by have h := mt (nI_ltI (a := pn (aa - 1)) (b := 4) (by omega) (by omega)).mpr c_2; omega
      omega

/-- X6_addPart -/
abbrev rm_c_X6_addPart_no : Room := { frames := 0, cells := 0, slots := 0, locals := 0 }
set_option maxHeartbeats 4000000 in
set_option maxRecDepth 100000 in
theorem c_X6_addPart_no (l : Launch) (G : GG) (z : Nat) (ad : Nat → Nat) (M : Mem) {k : Nat} {aa : Nat} {uv : Nat} {nt : Nat → Bool} {pn : Nat → Nat} {x : Nat} {v : Nat} (hk : M k = some (cQuestion ad k aa uv)) (q2 : M (k + 2) = some (aZ G 6 (bF nt))) (q3 : M (k + 3) = some (aI G 6 (nF pn))) (haa : 0 < aa ∧ aa ≤ 6) (hpn : pn (aa - 1) < 4) (huv : uv < 8) (hv3 : v < 3) (hnt : nt (aa - 1) = true) (hse : uv.testBit v = false) : Met l yX6_addPart wsX6_addPart rm_c_X6_addPart_no (Pr G z ad M [.ref (ad k), .int (nI x), .int (nI (40 + v))]) (vp_Si (fun r : Int32 => r = nI 0)) 0 0 (fun _ => False) := by
  refine Met.ofW (cc := cX6_addPart) (maxL := 5) (ret := (some .boolean)) (by decide) rfl ?_
  intro p e s m args below meth c s₁ B hml hv
  obtain ⟨rfl, hv⟩ := hv
  have hI := Iv.entry hv
  have hx := B.exec
  have hb := B.bytes
  have hr := B.returns
  have hts := atoms_spec (ws := wsX6_addPart) B.pre
  have hown : s.vm.findClass RX6 = some m.cls := findClass_of_methodNamed B.named
  have hlocks := B.notSynchronized
  have i_RX6 : ∀ w ∈ u_ws RX6 TX6 8, w ∈ wsX6_addPart := fun w h => List.mem_cons_of_mem _ (iu_X6 w h)
  have f_31 := hts _ (List.mem_cons_of_mem _ (lwg_of t_195 rfl))
  have f_19 := hts _ (List.mem_cons_of_mem _ (lwg_of t_191 rfl))
  have f_15 := hts _ (List.mem_cons_of_mem _ (lwg_of t_190 rfl))
  have f_35 := hts _ (List.mem_cons_of_mem _ (lwg_of t_196 rfl))
  have hl := lv_entry ([.ref (ad k), .int (nI x), .int (nI (40 + v))]) (n := 5) (Nat.le_of_ble_eq_true rfl)
  rw [lg_entry_eq]
  generalize (lg_sl ([.ref (ad k), .int (nI x), .int (nI (40 + v))]) ++ List.replicate (5 - (lg_sl ([.ref (ad k), .int (nI x), .int (nI (40 + v))])).length) Slot.unset).toArray = ls at hl ⊢
  have hl : lv_has ls 5 [(0, .ref (ad k)), (1, .int (nI x)), (2, .int (nI (40 + v)))] := hl
  refine lv_aload_n hx hb dX6_addPart_0 rfl (lv_at hl 0 rfl) ?_
  refine h_get (C := RX6) (T := TX6) (N := 8) hx hb hts i_RX6 hown hI hk rfl 6 (by decide) f_31 rfl rfl dX6_addPart_1 ?_
  refine lv_iconst (v := nI 1) hx hb dX6_addPart_4 (by decide) ?_
  refine lv_isub hx hb dX6_addPart_5 ?_
  refine n_eq (pk_sub (a := aa) (b := 1) (by omega)) ?_
  refine lv_istore_n (lv' := [(3, .int (nI (aa - 1))), (0, .ref (ad k)), (1, .int (nI x)), (2, .int (nI (40 + v)))]) hx hb dX6_addPart_6 rfl hl (by decide) rfl (fun ls hl => ?_)
  refine lv_iload_n hx hb dX6_addPart_7 rfl (lv_at hl 0 rfl) ?_
  refine lv_if_lt (tgt := 21) hx hb dX6_addPart_8 (by decide) (fun c_1 => ?_) (fun c_1 => ?_)
  · -- 8: nI (aa - 1) lt
    have c_1 : aa - 1 < 0 := (nI_ltI (a := aa - 1) (b := 0) (by omega) (by omega)).mp (c_1)
    omega
  · -- 8: nI (aa - 1) ge
    have c_1 : 0 ≤ aa - 1 := by have h := mt (nI_ltI (a := aa - 1) (b := 0) (by omega) (by omega)).mpr c_1; omega
    refine lv_aload_n hx hb dX6_addPart_11 rfl (lv_at hl 1 rfl) ?_
    refine h_get (C := RX6) (T := TX6) (N := 8) hx hb hts i_RX6 hown hI hk rfl 2 (by decide) f_19 rfl rfl dX6_addPart_12 ?_
    refine lv_iload_n hx hb dX6_addPart_15 rfl (lv_at hl 0 rfl) ?_
    refine h_iald (i := aa - 1) hx hb hI q3 (by omega) (by decide) dX6_addPart_16 ?_
    refine lv_iconst (v := nI 4) hx hb dX6_addPart_17 (by decide) ?_
    refine lv_icmp_lt (tgt := 23) hx hb dX6_addPart_18 (by decide) (fun c_2 => ?_) (fun c_2 => ?_)
    · -- 18: nI (pn (aa - 1)) lt
      have c_2 : pn (aa - 1) < 4 := (nI_ltI (a := pn (aa - 1)) (b := 4) (by omega) (by omega)).mp (c_2)
      refine lv_iload_n hx hb dX6_addPart_23 rfl (lv_at hl 3 rfl) ?_
      refine lv_bipush (v := nI 40) hx hb dX6_addPart_24 (by decide) ?_
      refine lv_icmp_lt (tgt := 80) hx hb dX6_addPart_26 (by decide) (fun c_3 => ?_) (fun c_3 => ?_)
      · -- 26: nI (40 + v) lt
        have c_3 : 40 + v < 40 := (nI_ltI (a := 40 + v) (b := 40) (by omega) (by omega)).mp (c_3)
        omega
      · -- 26: nI (40 + v) ge
        have c_3 : 40 ≤ 40 + v := by have h := mt (nI_ltI (a := 40 + v) (b := 40) (by omega) (by omega)).mpr c_3; omega
        refine lv_iconst (v := nI 1) hx hb dX6_addPart_29 (by decide) ?_
        refine lv_iload_n hx hb dX6_addPart_30 rfl (lv_at hl 3 rfl) ?_
        refine lv_bipush (v := nI 40) hx hb dX6_addPart_31 (by decide) ?_
        refine lv_isub hx hb dX6_addPart_33 ?_
        refine n_eq (pk_sub (a := 40 + v) (b := 40) (by omega)) ?_
        refine lv_ishl hx hb dX6_addPart_34 ?_
        refine n_eq (show _ = nI (2 ^ v) from by rw [show 40 + v - 40 = v by omega]; exact nI_shl1 v hv3) ?_
        refine lv_istore (lv' := [(4, .int (nI (2 ^ v))), (3, .int (nI (aa - 1))), (0, .ref (ad k)), (1, .int (nI x)), (2, .int (nI (40 + v)))]) hx hb dX6_addPart_35 hl (by decide) rfl (fun ls hl => ?_)
        refine lv_aload_n hx hb dX6_addPart_37 rfl (lv_at hl 2 rfl) ?_
        refine h_get (C := RX6) (T := TX6) (N := 8) hx hb hts i_RX6 hown hI hk rfl 1 (by decide) f_15 rfl rfl dX6_addPart_38 ?_
        refine lv_iload_n hx hb dX6_addPart_41 rfl (lv_at hl 1 rfl) ?_
        refine h_zald (i := aa - 1) hx hb hI q2 (by omega) (by decide) dX6_addPart_42 ?_
        refine lv_if_eq (tgt := 58) hx hb dX6_addPart_43 (by decide) (fun c_4 => ?_) (fun c_4 => ?_)
        · -- 43: bI (nt (aa - 1)) eq
          have c_4 : nt (aa - 1) = false := bI_f (c_4)
          simp_all
        · -- 43: bI (nt (aa - 1)) ne
          have c_4 : nt (aa - 1) = true := bI_t (c_4)
          refine lv_aload_n hx hb dX6_addPart_46 rfl (lv_at hl 2 rfl) ?_
          refine h_get (C := RX6) (T := TX6) (N := 8) hx hb hts i_RX6 hown hI hk rfl 7 (by decide) f_35 rfl rfl dX6_addPart_47 ?_
          refine lv_iload hx hb dX6_addPart_50 (lv_at hl 0 rfl) ?_
          refine lv_iand hx hb dX6_addPart_52 ?_
          refine n_eq (show _ = nI (uv &&& 2 ^ v) from nI_and _ _) ?_
          have hb3 := bit3 uv huv v hv3
          have hbz : uv &&& 2 ^ v = 0 := hb3.1.mpr hse
          refine lv_if_ne (tgt := 58) hx hb dX6_addPart_53 (by decide) (fun c_5 => ?_) (fun c_5 => ?_)
          · -- 53: nI (uv &&& 2 ^ v) ne
            have c_5 : uv &&& 2 ^ v ≠ 0 := by have h := mt (nI_eq (a := uv &&& 2 ^ v) (b := 0) (by omega) (by omega)).mpr c_5; omega
            omega
          · -- 53: nI (uv &&& 2 ^ v) eq
            have c_5 : uv &&& 2 ^ v = 0 := (nI_eq (a := uv &&& 2 ^ v) (b := 0) (by omega) (by omega)).mp (c_5)
            refine lv_iconst (v := nI 0) hx hb dX6_addPart_56 (by decide) ?_
            exact e_Ri hx hb hr rfl hlocks (rfl) dX6_addPart_57
    · -- 18: nI (pn (aa - 1)) ge
      have c_2 : 4 ≤ pn (aa - 1) := by have h := mt (nI_ltI (a := pn (aa - 1)) (b := 4) (by omega) (by omega)).mpr c_2; omega
      omega

/-- X6_addPart -/
abbrev rm_c_X6_addPart_v : Room := { frames := 0, cells := 0, slots := 0, locals := 0 }
set_option maxHeartbeats 4000000 in
set_option maxRecDepth 100000 in
theorem c_X6_addPart_v (l : Launch) (G : GG) (z : Nat) (ad : Nat → Nat) (M : Mem) {k : Nat} {aa : Nat} {uv : Nat} {nt : Nat → Bool} {pn : Nat → Nat} {av : Nat → Nat} {ro : Nat → Nat} {te : Nat → Nat} {x : Nat} {v : Nat} (hk : M k = some (cQuestion ad k aa uv)) (q2 : M (k + 2) = some (aZ G 6 (bF nt))) (q3 : M (k + 3) = some (aI G 6 (nF pn))) (q4 : M (k + 4) = some (aI G 6 (nF av))) (q5 : M (k + 5) = some (aI G 24 (nF ro))) (q6 : M (k + 6) = some (aI G 24 (nF te))) (haa : 0 < aa ∧ aa ≤ 6) (hpn : pn (aa - 1) < 4) (huv : uv < 8) (hav : av (aa - 1) < 8) (hv3 : v < 3) (hok : nt (aa - 1) = false ∨ uv.testBit v = true) : Met l yX6_addPart wsX6_addPart rm_c_X6_addPart_v (Pr G z ad M [.ref (ad k), .int (nI x), .int (nI (40 + v))]) (Ni G z ad (fun (r : Int32) (M' : Mem) => r = nI 1 ∧ M' k = some (cQuestion ad k aa (uv ||| 2 ^ v)) ∧ M' (k + 3) = some (aI G 6 (nF (va_up pn (aa - 1) (pn (aa - 1) + 1)))) ∧ M' (k + 4) = some (aI G 6 (nF (va_up av (aa - 1) (av (aa - 1) ||| 2 ^ v)))) ∧ M' (k + 5) = some (aI G 24 (nF (va_up ro ((aa - 1) * 4 + pn (aa - 1)) x))) ∧ M' (k + 6) = some (aI G 24 (nF (va_up te ((aa - 1) * 4 + pn (aa - 1)) (40 + v)))) ∧ (∀ j : Nat, j ≠ k → j ≠ (k + 3) → j ≠ (k + 4) → j ≠ (k + 5) → j ≠ (k + 6) → M' j = M j))) 0 0 (fr z) := by
  refine Met.ofW (cc := cX6_addPart) (maxL := 5) (ret := (some .boolean)) (by decide) rfl ?_
  intro p e s m args below meth c s₁ B hml hv
  obtain ⟨rfl, hv⟩ := hv
  have hI := Iv.entry hv
  have hx := B.exec
  have hb := B.bytes
  have hr := B.returns
  have hts := atoms_spec (ws := wsX6_addPart) B.pre
  have hown : s.vm.findClass RX6 = some m.cls := findClass_of_methodNamed B.named
  have hlocks := B.notSynchronized
  have i_RX6 : ∀ w ∈ u_ws RX6 TX6 8, w ∈ wsX6_addPart := fun w h => List.mem_cons_of_mem _ (iu_X6 w h)
  have f_31 := hts _ (List.mem_cons_of_mem _ (lwg_of t_195 rfl))
  have f_19 := hts _ (List.mem_cons_of_mem _ (lwg_of t_191 rfl))
  have f_15 := hts _ (List.mem_cons_of_mem _ (lwg_of t_190 rfl))
  have f_35 := hts _ (List.mem_cons_of_mem _ (lwg_of t_196 rfl))
  have f_22 := hts _ (List.mem_cons_of_mem _ (lwg_of t_192 rfl))
  have f_25 := hts _ (List.mem_cons_of_mem _ (lwg_of t_193 rfl))
  have f_28 := hts _ (List.mem_cons_of_mem _ (lwg_of t_194 rfl))
  have hl := lv_entry ([.ref (ad k), .int (nI x), .int (nI (40 + v))]) (n := 5) (Nat.le_of_ble_eq_true rfl)
  rw [lg_entry_eq]
  generalize (lg_sl ([.ref (ad k), .int (nI x), .int (nI (40 + v))]) ++ List.replicate (5 - (lg_sl ([.ref (ad k), .int (nI x), .int (nI (40 + v))])).length) Slot.unset).toArray = ls at hl ⊢
  have hl : lv_has ls 5 [(0, .ref (ad k)), (1, .int (nI x)), (2, .int (nI (40 + v)))] := hl
  have hb3 := bit3 uv huv v hv3
  have hbl : uv &&& 2 ^ v < 2 ^ 31 := Nat.lt_of_le_of_lt Nat.and_le_left (by omega)
  refine lv_aload_n hx hb dX6_addPart_0 rfl (lv_at hl 0 rfl) ?_
  refine h_get (C := RX6) (T := TX6) (N := 8) hx hb hts i_RX6 hown hI hk rfl 6 (by decide) f_31 rfl rfl dX6_addPart_1 ?_
  refine lv_iconst (v := nI 1) hx hb dX6_addPart_4 (by decide) ?_
  refine lv_isub hx hb dX6_addPart_5 ?_
  refine n_eq (pk_sub (a := aa) (b := 1) (by omega)) ?_
  refine lv_istore_n (lv' := [(3, .int (nI (aa - 1))), (0, .ref (ad k)), (1, .int (nI x)), (2, .int (nI (40 + v)))]) hx hb dX6_addPart_6 rfl hl (by decide) rfl (fun ls hl => ?_)
  refine lv_iload_n hx hb dX6_addPart_7 rfl (lv_at hl 0 rfl) ?_
  refine lv_if_lt (tgt := 21) hx hb dX6_addPart_8 (by decide) (fun c_1 => ?_) (fun c_1 => ?_)
  · -- 8: nI (aa - 1) lt
    have c_1 : aa - 1 < 0 := (nI_ltI (a := aa - 1) (b := 0) (by omega) (by omega)).mp (c_1)
    omega
  · -- 8: nI (aa - 1) ge
    have c_1 : 0 ≤ aa - 1 := by have h := mt (nI_ltI (a := aa - 1) (b := 0) (by omega) (by omega)).mpr c_1; omega
    refine lv_aload_n hx hb dX6_addPart_11 rfl (lv_at hl 1 rfl) ?_
    refine h_get (C := RX6) (T := TX6) (N := 8) hx hb hts i_RX6 hown hI hk rfl 2 (by decide) f_19 rfl rfl dX6_addPart_12 ?_
    refine lv_iload_n hx hb dX6_addPart_15 rfl (lv_at hl 0 rfl) ?_
    refine h_iald (i := aa - 1) hx hb hI q3 (by omega) (by decide) dX6_addPart_16 ?_
    refine lv_iconst (v := nI 4) hx hb dX6_addPart_17 (by decide) ?_
    refine lv_icmp_lt (tgt := 23) hx hb dX6_addPart_18 (by decide) (fun c_2 => ?_) (fun c_2 => ?_)
    · -- 18: nI (pn (aa - 1)) lt
      have c_2 : pn (aa - 1) < 4 := (nI_ltI (a := pn (aa - 1)) (b := 4) (by omega) (by omega)).mp (c_2)
      refine lv_iload_n hx hb dX6_addPart_23 rfl (lv_at hl 3 rfl) ?_
      refine lv_bipush (v := nI 40) hx hb dX6_addPart_24 (by decide) ?_
      refine lv_icmp_lt (tgt := 80) hx hb dX6_addPart_26 (by decide) (fun c_3 => ?_) (fun c_3 => ?_)
      · -- 26: nI (40 + v) lt
        have c_3 : 40 + v < 40 := (nI_ltI (a := 40 + v) (b := 40) (by omega) (by omega)).mp (c_3)
        omega
      · -- 26: nI (40 + v) ge
        have c_3 : 40 ≤ 40 + v := by have h := mt (nI_ltI (a := 40 + v) (b := 40) (by omega) (by omega)).mpr c_3; omega
        refine lv_iconst (v := nI 1) hx hb dX6_addPart_29 (by decide) ?_
        refine lv_iload_n hx hb dX6_addPart_30 rfl (lv_at hl 3 rfl) ?_
        refine lv_bipush (v := nI 40) hx hb dX6_addPart_31 (by decide) ?_
        refine lv_isub hx hb dX6_addPart_33 ?_
        refine n_eq (pk_sub (a := 40 + v) (b := 40) (by omega)) ?_
        refine lv_ishl hx hb dX6_addPart_34 ?_
        refine n_eq (show _ = nI (2 ^ v) from by rw [show 40 + v - 40 = v by omega]; exact nI_shl1 v hv3) ?_
        refine lv_istore (lv' := [(4, .int (nI (2 ^ v))), (3, .int (nI (aa - 1))), (0, .ref (ad k)), (1, .int (nI x)), (2, .int (nI (40 + v)))]) hx hb dX6_addPart_35 hl (by decide) rfl (fun ls hl => ?_)
        refine lv_aload_n hx hb dX6_addPart_37 rfl (lv_at hl 2 rfl) ?_
        refine h_get (C := RX6) (T := TX6) (N := 8) hx hb hts i_RX6 hown hI hk rfl 1 (by decide) f_15 rfl rfl dX6_addPart_38 ?_
        refine lv_iload_n hx hb dX6_addPart_41 rfl (lv_at hl 1 rfl) ?_
        refine h_zald (i := aa - 1) hx hb hI q2 (by omega) (by decide) dX6_addPart_42 ?_
        refine lv_if_eq (tgt := 58) hx hb dX6_addPart_43 (by decide) (fun c_4 => ?_) (fun c_4 => ?_)
        · -- 43: bI (nt (aa - 1)) eq
          have c_4 : nt (aa - 1) = false := bI_f (c_4)
          refine lv_aload_n hx hb dX6_addPart_58 rfl (lv_at hl 2 rfl) ?_
          refine lv_dup hx hb dX6_addPart_59 rfl ?_
          refine h_get (C := RX6) (T := TX6) (N := 8) hx hb hts i_RX6 hown hI hk rfl 7 (by decide) f_35 rfl rfl dX6_addPart_60 ?_
          refine lv_iload hx hb dX6_addPart_63 (lv_at hl 0 rfl) ?_
          refine lv_ior hx hb dX6_addPart_65 ?_
          refine n_eq (show _ = nI (uv ||| 2 ^ v) from nI_or _ _) ?_
          refine h_put (C := RX6) (T := TX6) (N := 8) hx hb hts i_RX6 tyX6 tyX6_ok nmX6 hown hI hk rfl 7 (by decide) f_35 rfl rfl rfl rfl (Nat.le_of_ble_eq_true rfl) dX6_addPart_66 (fun M_5 H_6 locs_7 eM_8 hI => ?_)
          have hm_9 : M_5 k = some (cQuestion ad k aa (uv ||| 2 ^ v)) := by rw [eM_8]; exact va_up_self _ _ _
          have hm_10 : M_5 (k + 2) = some (aZ G 6 (bF nt)) := by rw [eM_8, va_up_ne _ _ (by omega)]; exact q2
          have hm_11 : M_5 (k + 3) = some (aI G 6 (nF pn)) := by rw [eM_8, va_up_ne _ _ (by omega)]; exact q3
          have hm_12 : M_5 (k + 4) = some (aI G 6 (nF av)) := by rw [eM_8, va_up_ne _ _ (by omega)]; exact q4
          have hm_13 : M_5 (k + 5) = some (aI G 24 (nF ro)) := by rw [eM_8, va_up_ne _ _ (by omega)]; exact q5
          have hm_14 : M_5 (k + 6) = some (aI G 24 (nF te)) := by rw [eM_8, va_up_ne _ _ (by omega)]; exact q6
          have hF_15 : ∀ j : Nat, j ≠ k → M_5 j = M j := fun j q0 => by rw [eM_8, va_up_ne _ _ q0]
          refine lv_aload_n hx hb dX6_addPart_69 rfl (lv_at hl 2 rfl) ?_
          refine h_get (C := RX6) (T := TX6) (N := 8) hx hb hts i_RX6 hown hI hm_9 rfl 3 (by decide) f_22 rfl rfl dX6_addPart_70 ?_
          refine lv_iload_n hx hb dX6_addPart_73 rfl (lv_at hl 1 rfl) ?_
          refine lv_dup2_11 hx hb dX6_addPart_74 rfl rfl ?_
          refine h_iald (i := aa - 1) hx hb hI hm_12 (by omega) (by decide) dX6_addPart_75 ?_
          refine lv_iload hx hb dX6_addPart_76 (lv_at hl 0 rfl) ?_
          refine lv_ior hx hb dX6_addPart_78 ?_
          refine n_eq (show _ = nI (av (aa - 1) ||| 2 ^ v) from nI_or _ _) ?_
          refine h_iast (i := aa - 1) (x := nI (av (aa - 1) ||| 2 ^ v)) hx hb hI hm_12 (by omega) (by decide) dX6_addPart_79 (fun M_16 H_17 locs_18 eM_19 hI => ?_)
          rw [upd_nF] at eM_19
          have hm_20 : M_16 k = some (cQuestion ad k aa (uv ||| 2 ^ v)) := by rw [eM_19, va_up_ne _ _ (by omega)]; exact hm_9
          have hm_21 : M_16 (k + 2) = some (aZ G 6 (bF nt)) := by rw [eM_19, va_up_ne _ _ (by omega)]; exact hm_10
          have hm_22 : M_16 (k + 3) = some (aI G 6 (nF pn)) := by rw [eM_19, va_up_ne _ _ (by omega)]; exact hm_11
          have hm_23 : M_16 (k + 4) = some (aI G 6 (nF (va_up av (aa - 1) (av (aa - 1) ||| 2 ^ v)))) := by rw [eM_19]; exact va_up_self _ _ _
          have hm_24 : M_16 (k + 5) = some (aI G 24 (nF ro)) := by rw [eM_19, va_up_ne _ _ (by omega)]; exact hm_13
          have hm_25 : M_16 (k + 6) = some (aI G 24 (nF te)) := by rw [eM_19, va_up_ne _ _ (by omega)]; exact hm_14
          have hF_26 : ∀ j : Nat, j ≠ k → j ≠ (k + 4) → M_16 j = M j := fun j q0 q1 => by rw [eM_19, va_up_ne _ _ q1]; exact hF_15 j q0
          refine lv_iload_n hx hb dX6_addPart_80 rfl (lv_at hl 1 rfl) ?_
          refine lv_iconst (v := nI 4) hx hb dX6_addPart_81 (by decide) ?_
          refine lv_imul hx hb dX6_addPart_82 ?_
          refine n_eq (pk_mul (aa - 1) 4) ?_
          refine lv_aload_n hx hb dX6_addPart_83 rfl (lv_at hl 2 rfl) ?_
          refine h_get (C := RX6) (T := TX6) (N := 8) hx hb hts i_RX6 hown hI hm_20 rfl 2 (by decide) f_19 rfl rfl dX6_addPart_84 ?_
          refine lv_iload_n hx hb dX6_addPart_87 rfl (lv_at hl 1 rfl) ?_
          refine h_iald (i := aa - 1) hx hb hI hm_22 (by omega) (by decide) dX6_addPart_88 ?_
          refine lv_iadd hx hb dX6_addPart_89 ?_
          refine n_eq (nI_add ((aa - 1) * 4) (pn (aa - 1))) ?_
          refine lv_istore (lv' := [(4, .int (nI (((aa - 1) * 4) + (pn (aa - 1))))), (3, .int (nI (aa - 1))), (0, .ref (ad k)), (1, .int (nI x)), (2, .int (nI (40 + v)))]) hx hb dX6_addPart_90 hl (by decide) rfl (fun ls hl => ?_)
          refine lv_aload_n hx hb dX6_addPart_92 rfl (lv_at hl 2 rfl) ?_
          refine h_get (C := RX6) (T := TX6) (N := 8) hx hb hts i_RX6 hown hI hm_20 rfl 4 (by decide) f_25 rfl rfl dX6_addPart_93 ?_
          refine lv_iload hx hb dX6_addPart_96 (lv_at hl 0 rfl) ?_
          refine lv_iload_n hx hb dX6_addPart_98 rfl (lv_at hl 3 rfl) ?_
          refine h_iast (i := ((aa - 1) * 4) + (pn (aa - 1))) (x := nI x) hx hb hI hm_24 (by omega) (by decide) dX6_addPart_99 (fun M_27 H_28 locs_29 eM_30 hI => ?_)
          rw [upd_nF] at eM_30
          have hm_31 : M_27 k = some (cQuestion ad k aa (uv ||| 2 ^ v)) := by rw [eM_30, va_up_ne _ _ (by omega)]; exact hm_20
          have hm_32 : M_27 (k + 2) = some (aZ G 6 (bF nt)) := by rw [eM_30, va_up_ne _ _ (by omega)]; exact hm_21
          have hm_33 : M_27 (k + 3) = some (aI G 6 (nF pn)) := by rw [eM_30, va_up_ne _ _ (by omega)]; exact hm_22
          have hm_34 : M_27 (k + 4) = some (aI G 6 (nF (va_up av (aa - 1) (av (aa - 1) ||| 2 ^ v)))) := by rw [eM_30, va_up_ne _ _ (by omega)]; exact hm_23
          have hm_35 : M_27 (k + 5) = some (aI G 24 (nF (va_up ro (((aa - 1) * 4) + (pn (aa - 1))) x))) := by rw [eM_30]; exact va_up_self _ _ _
          have hm_36 : M_27 (k + 6) = some (aI G 24 (nF te)) := by rw [eM_30, va_up_ne _ _ (by omega)]; exact hm_25
          have hF_37 : ∀ j : Nat, j ≠ k → j ≠ (k + 4) → j ≠ (k + 5) → M_27 j = M j := fun j q0 q1 q2 => by rw [eM_30, va_up_ne _ _ q2]; exact hF_26 j q0 q1
          refine lv_aload_n hx hb dX6_addPart_100 rfl (lv_at hl 2 rfl) ?_
          refine h_get (C := RX6) (T := TX6) (N := 8) hx hb hts i_RX6 hown hI hm_31 rfl 5 (by decide) f_28 rfl rfl dX6_addPart_101 ?_
          refine lv_iload hx hb dX6_addPart_104 (lv_at hl 0 rfl) ?_
          refine lv_iload_n hx hb dX6_addPart_106 rfl (lv_at hl 4 rfl) ?_
          refine h_iast (i := ((aa - 1) * 4) + (pn (aa - 1))) (x := nI (40 + v)) hx hb hI hm_36 (by omega) (by decide) dX6_addPart_107 (fun M_38 H_39 locs_40 eM_41 hI => ?_)
          rw [upd_nF] at eM_41
          have hm_42 : M_38 k = some (cQuestion ad k aa (uv ||| 2 ^ v)) := by rw [eM_41, va_up_ne _ _ (by omega)]; exact hm_31
          have hm_43 : M_38 (k + 2) = some (aZ G 6 (bF nt)) := by rw [eM_41, va_up_ne _ _ (by omega)]; exact hm_32
          have hm_44 : M_38 (k + 3) = some (aI G 6 (nF pn)) := by rw [eM_41, va_up_ne _ _ (by omega)]; exact hm_33
          have hm_45 : M_38 (k + 4) = some (aI G 6 (nF (va_up av (aa - 1) (av (aa - 1) ||| 2 ^ v)))) := by rw [eM_41, va_up_ne _ _ (by omega)]; exact hm_34
          have hm_46 : M_38 (k + 5) = some (aI G 24 (nF (va_up ro (((aa - 1) * 4) + (pn (aa - 1))) x))) := by rw [eM_41, va_up_ne _ _ (by omega)]; exact hm_35
          have hm_47 : M_38 (k + 6) = some (aI G 24 (nF (va_up te (((aa - 1) * 4) + (pn (aa - 1))) (40 + v)))) := by rw [eM_41]; exact va_up_self _ _ _
          have hF_48 : ∀ j : Nat, j ≠ k → j ≠ (k + 4) → j ≠ (k + 5) → j ≠ (k + 6) → M_38 j = M j := fun j q0 q1 q2 q3 => by rw [eM_41, va_up_ne _ _ q3]; exact hF_37 j q0 q1 q2
          refine lv_aload_n hx hb dX6_addPart_108 rfl (lv_at hl 2 rfl) ?_
          refine h_get (C := RX6) (T := TX6) (N := 8) hx hb hts i_RX6 hown hI hm_42 rfl 2 (by decide) f_19 rfl rfl dX6_addPart_109 ?_
          refine lv_iload_n hx hb dX6_addPart_112 rfl (lv_at hl 1 rfl) ?_
          refine lv_dup2_11 hx hb dX6_addPart_113 rfl rfl ?_
          refine h_iald (i := aa - 1) hx hb hI hm_44 (by omega) (by decide) dX6_addPart_114 ?_
          refine lv_iconst (v := nI 1) hx hb dX6_addPart_115 (by decide) ?_
          refine lv_iadd hx hb dX6_addPart_116 ?_
          refine n_eq (nI_add (pn (aa - 1)) 1) ?_
          refine h_iast (i := aa - 1) (x := nI ((pn (aa - 1)) + 1)) hx hb hI hm_44 (by omega) (by decide) dX6_addPart_117 (fun M_49 H_50 locs_51 eM_52 hI => ?_)
          rw [upd_nF] at eM_52
          have hm_53 : M_49 k = some (cQuestion ad k aa (uv ||| 2 ^ v)) := by rw [eM_52, va_up_ne _ _ (by omega)]; exact hm_42
          have hm_54 : M_49 (k + 2) = some (aZ G 6 (bF nt)) := by rw [eM_52, va_up_ne _ _ (by omega)]; exact hm_43
          have hm_55 : M_49 (k + 3) = some (aI G 6 (nF (va_up pn (aa - 1) ((pn (aa - 1)) + 1)))) := by rw [eM_52]; exact va_up_self _ _ _
          have hm_56 : M_49 (k + 4) = some (aI G 6 (nF (va_up av (aa - 1) (av (aa - 1) ||| 2 ^ v)))) := by rw [eM_52, va_up_ne _ _ (by omega)]; exact hm_45
          have hm_57 : M_49 (k + 5) = some (aI G 24 (nF (va_up ro (((aa - 1) * 4) + (pn (aa - 1))) x))) := by rw [eM_52, va_up_ne _ _ (by omega)]; exact hm_46
          have hm_58 : M_49 (k + 6) = some (aI G 24 (nF (va_up te (((aa - 1) * 4) + (pn (aa - 1))) (40 + v)))) := by rw [eM_52, va_up_ne _ _ (by omega)]; exact hm_47
          have hF_59 : ∀ j : Nat, j ≠ k → j ≠ (k + 4) → j ≠ (k + 5) → j ≠ (k + 6) → j ≠ (k + 3) → M_49 j = M j := fun j q0 q1 q2 q3 q4 => by rw [eM_52, va_up_ne _ _ q4]; exact hF_48 j q0 q1 q2 q3
          refine lv_iconst (v := nI 1) hx hb dX6_addPart_118 (by decide) ?_
          exact e_Ni hx hb hr rfl hlocks hI ⟨rfl, hm_53, hm_55, hm_56, hm_57, hm_58, (fun j q0 q1 q2 q3 q4 => hF_59 j q0 q2 q3 q4 q1)⟩ dX6_addPart_119
        · -- 43: bI (nt (aa - 1)) ne
          have c_4 : nt (aa - 1) = true := bI_t (c_4)
          refine lv_aload_n hx hb dX6_addPart_46 rfl (lv_at hl 2 rfl) ?_
          refine h_get (C := RX6) (T := TX6) (N := 8) hx hb hts i_RX6 hown hI hk rfl 7 (by decide) f_35 rfl rfl dX6_addPart_47 ?_
          refine lv_iload hx hb dX6_addPart_50 (lv_at hl 0 rfl) ?_
          refine lv_iand hx hb dX6_addPart_52 ?_
          refine n_eq (show _ = nI (uv &&& 2 ^ v) from nI_and _ _) ?_
          refine lv_if_ne (tgt := 58) hx hb dX6_addPart_53 (by decide) (fun c_60 => ?_) (fun c_60 => ?_)
          · -- 53: nI (uv &&& 2 ^ v) ne
            have c_60 : uv &&& 2 ^ v ≠ 0 := by have h := mt (nI_eq (a := uv &&& 2 ^ v) (b := 0) (by omega) (by omega)).mpr c_60; omega
            refine lv_aload_n hx hb dX6_addPart_58 rfl (lv_at hl 2 rfl) ?_
            refine lv_dup hx hb dX6_addPart_59 rfl ?_
            refine h_get (C := RX6) (T := TX6) (N := 8) hx hb hts i_RX6 hown hI hk rfl 7 (by decide) f_35 rfl rfl dX6_addPart_60 ?_
            refine lv_iload hx hb dX6_addPart_63 (lv_at hl 0 rfl) ?_
            refine lv_ior hx hb dX6_addPart_65 ?_
            refine n_eq (show _ = nI (uv ||| 2 ^ v) from nI_or _ _) ?_
            refine h_put (C := RX6) (T := TX6) (N := 8) hx hb hts i_RX6 tyX6 tyX6_ok nmX6 hown hI hk rfl 7 (by decide) f_35 rfl rfl rfl rfl (Nat.le_of_ble_eq_true rfl) dX6_addPart_66 (fun M_61 H_62 locs_63 eM_64 hI => ?_)
            have hm_65 : M_61 k = some (cQuestion ad k aa (uv ||| 2 ^ v)) := by rw [eM_64]; exact va_up_self _ _ _
            have hm_66 : M_61 (k + 2) = some (aZ G 6 (bF nt)) := by rw [eM_64, va_up_ne _ _ (by omega)]; exact q2
            have hm_67 : M_61 (k + 3) = some (aI G 6 (nF pn)) := by rw [eM_64, va_up_ne _ _ (by omega)]; exact q3
            have hm_68 : M_61 (k + 4) = some (aI G 6 (nF av)) := by rw [eM_64, va_up_ne _ _ (by omega)]; exact q4
            have hm_69 : M_61 (k + 5) = some (aI G 24 (nF ro)) := by rw [eM_64, va_up_ne _ _ (by omega)]; exact q5
            have hm_70 : M_61 (k + 6) = some (aI G 24 (nF te)) := by rw [eM_64, va_up_ne _ _ (by omega)]; exact q6
            have hF_71 : ∀ j : Nat, j ≠ k → M_61 j = M j := fun j q0 => by rw [eM_64, va_up_ne _ _ q0]
            refine lv_aload_n hx hb dX6_addPart_69 rfl (lv_at hl 2 rfl) ?_
            refine h_get (C := RX6) (T := TX6) (N := 8) hx hb hts i_RX6 hown hI hm_65 rfl 3 (by decide) f_22 rfl rfl dX6_addPart_70 ?_
            refine lv_iload_n hx hb dX6_addPart_73 rfl (lv_at hl 1 rfl) ?_
            refine lv_dup2_11 hx hb dX6_addPart_74 rfl rfl ?_
            refine h_iald (i := aa - 1) hx hb hI hm_68 (by omega) (by decide) dX6_addPart_75 ?_
            refine lv_iload hx hb dX6_addPart_76 (lv_at hl 0 rfl) ?_
            refine lv_ior hx hb dX6_addPart_78 ?_
            refine n_eq (show _ = nI (av (aa - 1) ||| 2 ^ v) from nI_or _ _) ?_
            refine h_iast (i := aa - 1) (x := nI (av (aa - 1) ||| 2 ^ v)) hx hb hI hm_68 (by omega) (by decide) dX6_addPart_79 (fun M_72 H_73 locs_74 eM_75 hI => ?_)
            rw [upd_nF] at eM_75
            have hm_76 : M_72 k = some (cQuestion ad k aa (uv ||| 2 ^ v)) := by rw [eM_75, va_up_ne _ _ (by omega)]; exact hm_65
            have hm_77 : M_72 (k + 2) = some (aZ G 6 (bF nt)) := by rw [eM_75, va_up_ne _ _ (by omega)]; exact hm_66
            have hm_78 : M_72 (k + 3) = some (aI G 6 (nF pn)) := by rw [eM_75, va_up_ne _ _ (by omega)]; exact hm_67
            have hm_79 : M_72 (k + 4) = some (aI G 6 (nF (va_up av (aa - 1) (av (aa - 1) ||| 2 ^ v)))) := by rw [eM_75]; exact va_up_self _ _ _
            have hm_80 : M_72 (k + 5) = some (aI G 24 (nF ro)) := by rw [eM_75, va_up_ne _ _ (by omega)]; exact hm_69
            have hm_81 : M_72 (k + 6) = some (aI G 24 (nF te)) := by rw [eM_75, va_up_ne _ _ (by omega)]; exact hm_70
            have hF_82 : ∀ j : Nat, j ≠ k → j ≠ (k + 4) → M_72 j = M j := fun j q0 q1 => by rw [eM_75, va_up_ne _ _ q1]; exact hF_71 j q0
            refine lv_iload_n hx hb dX6_addPart_80 rfl (lv_at hl 1 rfl) ?_
            refine lv_iconst (v := nI 4) hx hb dX6_addPart_81 (by decide) ?_
            refine lv_imul hx hb dX6_addPart_82 ?_
            refine n_eq (pk_mul (aa - 1) 4) ?_
            refine lv_aload_n hx hb dX6_addPart_83 rfl (lv_at hl 2 rfl) ?_
            refine h_get (C := RX6) (T := TX6) (N := 8) hx hb hts i_RX6 hown hI hm_76 rfl 2 (by decide) f_19 rfl rfl dX6_addPart_84 ?_
            refine lv_iload_n hx hb dX6_addPart_87 rfl (lv_at hl 1 rfl) ?_
            refine h_iald (i := aa - 1) hx hb hI hm_78 (by omega) (by decide) dX6_addPart_88 ?_
            refine lv_iadd hx hb dX6_addPart_89 ?_
            refine n_eq (nI_add ((aa - 1) * 4) (pn (aa - 1))) ?_
            refine lv_istore (lv' := [(4, .int (nI (((aa - 1) * 4) + (pn (aa - 1))))), (3, .int (nI (aa - 1))), (0, .ref (ad k)), (1, .int (nI x)), (2, .int (nI (40 + v)))]) hx hb dX6_addPart_90 hl (by decide) rfl (fun ls hl => ?_)
            refine lv_aload_n hx hb dX6_addPart_92 rfl (lv_at hl 2 rfl) ?_
            refine h_get (C := RX6) (T := TX6) (N := 8) hx hb hts i_RX6 hown hI hm_76 rfl 4 (by decide) f_25 rfl rfl dX6_addPart_93 ?_
            refine lv_iload hx hb dX6_addPart_96 (lv_at hl 0 rfl) ?_
            refine lv_iload_n hx hb dX6_addPart_98 rfl (lv_at hl 3 rfl) ?_
            refine h_iast (i := ((aa - 1) * 4) + (pn (aa - 1))) (x := nI x) hx hb hI hm_80 (by omega) (by decide) dX6_addPart_99 (fun M_83 H_84 locs_85 eM_86 hI => ?_)
            rw [upd_nF] at eM_86
            have hm_87 : M_83 k = some (cQuestion ad k aa (uv ||| 2 ^ v)) := by rw [eM_86, va_up_ne _ _ (by omega)]; exact hm_76
            have hm_88 : M_83 (k + 2) = some (aZ G 6 (bF nt)) := by rw [eM_86, va_up_ne _ _ (by omega)]; exact hm_77
            have hm_89 : M_83 (k + 3) = some (aI G 6 (nF pn)) := by rw [eM_86, va_up_ne _ _ (by omega)]; exact hm_78
            have hm_90 : M_83 (k + 4) = some (aI G 6 (nF (va_up av (aa - 1) (av (aa - 1) ||| 2 ^ v)))) := by rw [eM_86, va_up_ne _ _ (by omega)]; exact hm_79
            have hm_91 : M_83 (k + 5) = some (aI G 24 (nF (va_up ro (((aa - 1) * 4) + (pn (aa - 1))) x))) := by rw [eM_86]; exact va_up_self _ _ _
            have hm_92 : M_83 (k + 6) = some (aI G 24 (nF te)) := by rw [eM_86, va_up_ne _ _ (by omega)]; exact hm_81
            have hF_93 : ∀ j : Nat, j ≠ k → j ≠ (k + 4) → j ≠ (k + 5) → M_83 j = M j := fun j q0 q1 q2 => by rw [eM_86, va_up_ne _ _ q2]; exact hF_82 j q0 q1
            refine lv_aload_n hx hb dX6_addPart_100 rfl (lv_at hl 2 rfl) ?_
            refine h_get (C := RX6) (T := TX6) (N := 8) hx hb hts i_RX6 hown hI hm_87 rfl 5 (by decide) f_28 rfl rfl dX6_addPart_101 ?_
            refine lv_iload hx hb dX6_addPart_104 (lv_at hl 0 rfl) ?_
            refine lv_iload_n hx hb dX6_addPart_106 rfl (lv_at hl 4 rfl) ?_
            refine h_iast (i := ((aa - 1) * 4) + (pn (aa - 1))) (x := nI (40 + v)) hx hb hI hm_92 (by omega) (by decide) dX6_addPart_107 (fun M_94 H_95 locs_96 eM_97 hI => ?_)
            rw [upd_nF] at eM_97
            have hm_98 : M_94 k = some (cQuestion ad k aa (uv ||| 2 ^ v)) := by rw [eM_97, va_up_ne _ _ (by omega)]; exact hm_87
            have hm_99 : M_94 (k + 2) = some (aZ G 6 (bF nt)) := by rw [eM_97, va_up_ne _ _ (by omega)]; exact hm_88
            have hm_100 : M_94 (k + 3) = some (aI G 6 (nF pn)) := by rw [eM_97, va_up_ne _ _ (by omega)]; exact hm_89
            have hm_101 : M_94 (k + 4) = some (aI G 6 (nF (va_up av (aa - 1) (av (aa - 1) ||| 2 ^ v)))) := by rw [eM_97, va_up_ne _ _ (by omega)]; exact hm_90
            have hm_102 : M_94 (k + 5) = some (aI G 24 (nF (va_up ro (((aa - 1) * 4) + (pn (aa - 1))) x))) := by rw [eM_97, va_up_ne _ _ (by omega)]; exact hm_91
            have hm_103 : M_94 (k + 6) = some (aI G 24 (nF (va_up te (((aa - 1) * 4) + (pn (aa - 1))) (40 + v)))) := by rw [eM_97]; exact va_up_self _ _ _
            have hF_104 : ∀ j : Nat, j ≠ k → j ≠ (k + 4) → j ≠ (k + 5) → j ≠ (k + 6) → M_94 j = M j := fun j q0 q1 q2 q3 => by rw [eM_97, va_up_ne _ _ q3]; exact hF_93 j q0 q1 q2
            refine lv_aload_n hx hb dX6_addPart_108 rfl (lv_at hl 2 rfl) ?_
            refine h_get (C := RX6) (T := TX6) (N := 8) hx hb hts i_RX6 hown hI hm_98 rfl 2 (by decide) f_19 rfl rfl dX6_addPart_109 ?_
            refine lv_iload_n hx hb dX6_addPart_112 rfl (lv_at hl 1 rfl) ?_
            refine lv_dup2_11 hx hb dX6_addPart_113 rfl rfl ?_
            refine h_iald (i := aa - 1) hx hb hI hm_100 (by omega) (by decide) dX6_addPart_114 ?_
            refine lv_iconst (v := nI 1) hx hb dX6_addPart_115 (by decide) ?_
            refine lv_iadd hx hb dX6_addPart_116 ?_
            refine n_eq (nI_add (pn (aa - 1)) 1) ?_
            refine h_iast (i := aa - 1) (x := nI ((pn (aa - 1)) + 1)) hx hb hI hm_100 (by omega) (by decide) dX6_addPart_117 (fun M_105 H_106 locs_107 eM_108 hI => ?_)
            rw [upd_nF] at eM_108
            have hm_109 : M_105 k = some (cQuestion ad k aa (uv ||| 2 ^ v)) := by rw [eM_108, va_up_ne _ _ (by omega)]; exact hm_98
            have hm_110 : M_105 (k + 2) = some (aZ G 6 (bF nt)) := by rw [eM_108, va_up_ne _ _ (by omega)]; exact hm_99
            have hm_111 : M_105 (k + 3) = some (aI G 6 (nF (va_up pn (aa - 1) ((pn (aa - 1)) + 1)))) := by rw [eM_108]; exact va_up_self _ _ _
            have hm_112 : M_105 (k + 4) = some (aI G 6 (nF (va_up av (aa - 1) (av (aa - 1) ||| 2 ^ v)))) := by rw [eM_108, va_up_ne _ _ (by omega)]; exact hm_101
            have hm_113 : M_105 (k + 5) = some (aI G 24 (nF (va_up ro (((aa - 1) * 4) + (pn (aa - 1))) x))) := by rw [eM_108, va_up_ne _ _ (by omega)]; exact hm_102
            have hm_114 : M_105 (k + 6) = some (aI G 24 (nF (va_up te (((aa - 1) * 4) + (pn (aa - 1))) (40 + v)))) := by rw [eM_108, va_up_ne _ _ (by omega)]; exact hm_103
            have hF_115 : ∀ j : Nat, j ≠ k → j ≠ (k + 4) → j ≠ (k + 5) → j ≠ (k + 6) → j ≠ (k + 3) → M_105 j = M j := fun j q0 q1 q2 q3 q4 => by rw [eM_108, va_up_ne _ _ q4]; exact hF_104 j q0 q1 q2 q3
            refine lv_iconst (v := nI 1) hx hb dX6_addPart_118 (by decide) ?_
            exact e_Ni hx hb hr rfl hlocks hI ⟨rfl, hm_109, hm_111, hm_112, hm_113, hm_114, (fun j q0 q1 q2 q3 q4 => hF_115 j q0 q2 q3 q4 q1)⟩ dX6_addPart_119
          · -- 53: nI (uv &&& 2 ^ v) eq
            have c_60 : uv &&& 2 ^ v = 0 := (nI_eq (a := uv &&& 2 ^ v) (b := 0) (by omega) (by omega)).mp (c_60)
            exact absurd (hb3.1.mp (by assumption)) (by rcases hok with h | h <;> simp_all)
    · -- 18: nI (pn (aa - 1)) ge
      have c_2 : 4 ≤ pn (aa - 1) := by have h := mt (nI_ltI (a := pn (aa - 1)) (b := 4) (by omega) (by omega)).mpr c_2; omega
      omega

/-- J6_bitCount_0f7a4 -/
abbrev rm_c_J6_bitCount_0f7a4 : Room := { frames := 0, cells := 0, slots := 0, locals := 0 }
set_option maxHeartbeats 4000000 in
set_option maxRecDepth 100000 in
theorem c_J6_bitCount_0f7a4 (l : Launch) (G : GG) (z : Nat) (ad : Nat → Nat) (M : Mem) {u : Nat}  (hu : u < 8) : Met l yJ6_bitCount_0f7a4 wsJ6_bitCount_0f7a4 rm_c_J6_bitCount_0f7a4 (Pr G z ad M [.int (nI u)]) (vp_Si (fun r : Int32 => r = nI (cnt3 u))) 0 0 (fun _ => False) := by
  refine Met.ofW (cc := cJ6_bitCount_0f7a4) (maxL := 1) (ret := (some .int)) (by decide) rfl ?_
  intro p e s m args below meth c s₁ B hml hv
  obtain ⟨rfl, hv⟩ := hv
  have hI := Iv.entry hv
  have hx := B.exec
  have hb := B.bytes
  have hr := B.returns
  have hts := atoms_spec (ws := wsJ6_bitCount_0f7a4) B.pre
  have hown : s.vm.findClass RJ6 = some m.cls := findClass_of_methodNamed B.named
  have hlocks := B.notSynchronized
  have k_265 := hts _ (List.mem_cons_of_mem _ (lwg_of t_465 rfl))
  have k_266 := hts _ (List.mem_cons_of_mem _ (lwg_of t_466 rfl))
  have k_267 := hts _ (List.mem_cons_of_mem _ (lwg_of t_467 rfl))
  have hl := lv_entry ([.int (nI u)]) (n := 1) (Nat.le_of_ble_eq_true rfl)
  rw [lg_entry_eq]
  generalize (lg_sl ([.int (nI u)]) ++ List.replicate (1 - (lg_sl ([.int (nI u)])).length) Slot.unset).toArray = ls at hl ⊢
  have hl : lv_has ls 1 [(0, .int (nI u))] := hl
  refine lv_iload_n hx hb dJ6_bitCount_0f7a4_0 rfl (lv_at hl 0 rfl) ?_
  refine lv_iload_n hx hb dJ6_bitCount_0f7a4_1 rfl (lv_at hl 0 rfl) ?_
  refine lv_iconst (v := nI 1) hx hb dJ6_bitCount_0f7a4_2 (by decide) ?_
  refine lv_iushr (v := ((nI u).toUInt32 >>> ((nI 1).toUInt32 &&& Int32.toUInt32 31)).toInt32) hx hb dJ6_bitCount_0f7a4_3 rfl ?_
  refine lv_ldcw hx hb hown k_265 dJ6_bitCount_0f7a4_4 ?_
  refine lv_iand hx hb dJ6_bitCount_0f7a4_7 ?_
  refine lv_isub hx hb dJ6_bitCount_0f7a4_8 ?_
  refine lv_istore_n (lv' := [(0, .int ((nI u) - ((((nI u).toUInt32 >>> ((nI 1).toUInt32 &&& Int32.toUInt32 31)).toInt32) &&& 1431655765)))]) hx hb dJ6_bitCount_0f7a4_9 rfl hl (by decide) rfl (fun ls hl => ?_)
  refine lv_iload_n hx hb dJ6_bitCount_0f7a4_10 rfl (lv_at hl 0 rfl) ?_
  refine lv_ldcw hx hb hown k_266 dJ6_bitCount_0f7a4_11 ?_
  refine lv_iand hx hb dJ6_bitCount_0f7a4_14 ?_
  refine lv_iload_n hx hb dJ6_bitCount_0f7a4_15 rfl (lv_at hl 0 rfl) ?_
  refine lv_iconst (v := nI 2) hx hb dJ6_bitCount_0f7a4_16 (by decide) ?_
  refine lv_iushr (v := (((nI u) - ((((nI u).toUInt32 >>> ((nI 1).toUInt32 &&& Int32.toUInt32 31)).toInt32) &&& 1431655765)).toUInt32 >>> ((nI 2).toUInt32 &&& Int32.toUInt32 31)).toInt32) hx hb dJ6_bitCount_0f7a4_17 rfl ?_
  refine lv_ldcw hx hb hown k_266 dJ6_bitCount_0f7a4_18 ?_
  refine lv_iand hx hb dJ6_bitCount_0f7a4_21 ?_
  refine lv_iadd hx hb dJ6_bitCount_0f7a4_22 ?_
  refine lv_istore_n (lv' := [(0, .int ((((nI u) - ((((nI u).toUInt32 >>> ((nI 1).toUInt32 &&& Int32.toUInt32 31)).toInt32) &&& 1431655765)) &&& 858993459) + (((((nI u) - ((((nI u).toUInt32 >>> ((nI 1).toUInt32 &&& Int32.toUInt32 31)).toInt32) &&& 1431655765)).toUInt32 >>> ((nI 2).toUInt32 &&& Int32.toUInt32 31)).toInt32) &&& 858993459)))]) hx hb dJ6_bitCount_0f7a4_23 rfl hl (by decide) rfl (fun ls hl => ?_)
  refine lv_iload_n hx hb dJ6_bitCount_0f7a4_24 rfl (lv_at hl 0 rfl) ?_
  refine lv_iload_n hx hb dJ6_bitCount_0f7a4_25 rfl (lv_at hl 0 rfl) ?_
  refine lv_iconst (v := nI 4) hx hb dJ6_bitCount_0f7a4_26 (by decide) ?_
  refine lv_iushr (v := (((((nI u) - ((((nI u).toUInt32 >>> ((nI 1).toUInt32 &&& Int32.toUInt32 31)).toInt32) &&& 1431655765)) &&& 858993459) + (((((nI u) - ((((nI u).toUInt32 >>> ((nI 1).toUInt32 &&& Int32.toUInt32 31)).toInt32) &&& 1431655765)).toUInt32 >>> ((nI 2).toUInt32 &&& Int32.toUInt32 31)).toInt32) &&& 858993459)).toUInt32 >>> ((nI 4).toUInt32 &&& Int32.toUInt32 31)).toInt32) hx hb dJ6_bitCount_0f7a4_27 rfl ?_
  refine lv_iadd hx hb dJ6_bitCount_0f7a4_28 ?_
  refine lv_ldcw hx hb hown k_267 dJ6_bitCount_0f7a4_29 ?_
  refine lv_iand hx hb dJ6_bitCount_0f7a4_32 ?_
  refine lv_istore_n (lv' := [(0, .int ((((((nI u) - ((((nI u).toUInt32 >>> ((nI 1).toUInt32 &&& Int32.toUInt32 31)).toInt32) &&& 1431655765)) &&& 858993459) + (((((nI u) - ((((nI u).toUInt32 >>> ((nI 1).toUInt32 &&& Int32.toUInt32 31)).toInt32) &&& 1431655765)).toUInt32 >>> ((nI 2).toUInt32 &&& Int32.toUInt32 31)).toInt32) &&& 858993459)) + ((((((nI u) - ((((nI u).toUInt32 >>> ((nI 1).toUInt32 &&& Int32.toUInt32 31)).toInt32) &&& 1431655765)) &&& 858993459) + (((((nI u) - ((((nI u).toUInt32 >>> ((nI 1).toUInt32 &&& Int32.toUInt32 31)).toInt32) &&& 1431655765)).toUInt32 >>> ((nI 2).toUInt32 &&& Int32.toUInt32 31)).toInt32) &&& 858993459)).toUInt32 >>> ((nI 4).toUInt32 &&& Int32.toUInt32 31)).toInt32)) &&& 252645135))]) hx hb dJ6_bitCount_0f7a4_33 rfl hl (by decide) rfl (fun ls hl => ?_)
  refine lv_iload_n hx hb dJ6_bitCount_0f7a4_34 rfl (lv_at hl 0 rfl) ?_
  refine lv_iload_n hx hb dJ6_bitCount_0f7a4_35 rfl (lv_at hl 0 rfl) ?_
  refine lv_bipush (v := nI 8) hx hb dJ6_bitCount_0f7a4_36 (by decide) ?_
  refine lv_iushr (v := (((((((nI u) - ((((nI u).toUInt32 >>> ((nI 1).toUInt32 &&& Int32.toUInt32 31)).toInt32) &&& 1431655765)) &&& 858993459) + (((((nI u) - ((((nI u).toUInt32 >>> ((nI 1).toUInt32 &&& Int32.toUInt32 31)).toInt32) &&& 1431655765)).toUInt32 >>> ((nI 2).toUInt32 &&& Int32.toUInt32 31)).toInt32) &&& 858993459)) + ((((((nI u) - ((((nI u).toUInt32 >>> ((nI 1).toUInt32 &&& Int32.toUInt32 31)).toInt32) &&& 1431655765)) &&& 858993459) + (((((nI u) - ((((nI u).toUInt32 >>> ((nI 1).toUInt32 &&& Int32.toUInt32 31)).toInt32) &&& 1431655765)).toUInt32 >>> ((nI 2).toUInt32 &&& Int32.toUInt32 31)).toInt32) &&& 858993459)).toUInt32 >>> ((nI 4).toUInt32 &&& Int32.toUInt32 31)).toInt32)) &&& 252645135).toUInt32 >>> ((nI 8).toUInt32 &&& Int32.toUInt32 31)).toInt32) hx hb dJ6_bitCount_0f7a4_38 rfl ?_
  refine lv_iadd hx hb dJ6_bitCount_0f7a4_39 ?_
  refine lv_istore_n (lv' := [(0, .int (((((((nI u) - ((((nI u).toUInt32 >>> ((nI 1).toUInt32 &&& Int32.toUInt32 31)).toInt32) &&& 1431655765)) &&& 858993459) + (((((nI u) - ((((nI u).toUInt32 >>> ((nI 1).toUInt32 &&& Int32.toUInt32 31)).toInt32) &&& 1431655765)).toUInt32 >>> ((nI 2).toUInt32 &&& Int32.toUInt32 31)).toInt32) &&& 858993459)) + ((((((nI u) - ((((nI u).toUInt32 >>> ((nI 1).toUInt32 &&& Int32.toUInt32 31)).toInt32) &&& 1431655765)) &&& 858993459) + (((((nI u) - ((((nI u).toUInt32 >>> ((nI 1).toUInt32 &&& Int32.toUInt32 31)).toInt32) &&& 1431655765)).toUInt32 >>> ((nI 2).toUInt32 &&& Int32.toUInt32 31)).toInt32) &&& 858993459)).toUInt32 >>> ((nI 4).toUInt32 &&& Int32.toUInt32 31)).toInt32)) &&& 252645135) + ((((((((nI u) - ((((nI u).toUInt32 >>> ((nI 1).toUInt32 &&& Int32.toUInt32 31)).toInt32) &&& 1431655765)) &&& 858993459) + (((((nI u) - ((((nI u).toUInt32 >>> ((nI 1).toUInt32 &&& Int32.toUInt32 31)).toInt32) &&& 1431655765)).toUInt32 >>> ((nI 2).toUInt32 &&& Int32.toUInt32 31)).toInt32) &&& 858993459)) + ((((((nI u) - ((((nI u).toUInt32 >>> ((nI 1).toUInt32 &&& Int32.toUInt32 31)).toInt32) &&& 1431655765)) &&& 858993459) + (((((nI u) - ((((nI u).toUInt32 >>> ((nI 1).toUInt32 &&& Int32.toUInt32 31)).toInt32) &&& 1431655765)).toUInt32 >>> ((nI 2).toUInt32 &&& Int32.toUInt32 31)).toInt32) &&& 858993459)).toUInt32 >>> ((nI 4).toUInt32 &&& Int32.toUInt32 31)).toInt32)) &&& 252645135).toUInt32 >>> ((nI 8).toUInt32 &&& Int32.toUInt32 31)).toInt32)))]) hx hb dJ6_bitCount_0f7a4_40 rfl hl (by decide) rfl (fun ls hl => ?_)
  refine lv_iload_n hx hb dJ6_bitCount_0f7a4_41 rfl (lv_at hl 0 rfl) ?_
  refine lv_iload_n hx hb dJ6_bitCount_0f7a4_42 rfl (lv_at hl 0 rfl) ?_
  refine lv_bipush (v := nI 16) hx hb dJ6_bitCount_0f7a4_43 (by decide) ?_
  refine lv_iushr (v := ((((((((nI u) - ((((nI u).toUInt32 >>> ((nI 1).toUInt32 &&& Int32.toUInt32 31)).toInt32) &&& 1431655765)) &&& 858993459) + (((((nI u) - ((((nI u).toUInt32 >>> ((nI 1).toUInt32 &&& Int32.toUInt32 31)).toInt32) &&& 1431655765)).toUInt32 >>> ((nI 2).toUInt32 &&& Int32.toUInt32 31)).toInt32) &&& 858993459)) + ((((((nI u) - ((((nI u).toUInt32 >>> ((nI 1).toUInt32 &&& Int32.toUInt32 31)).toInt32) &&& 1431655765)) &&& 858993459) + (((((nI u) - ((((nI u).toUInt32 >>> ((nI 1).toUInt32 &&& Int32.toUInt32 31)).toInt32) &&& 1431655765)).toUInt32 >>> ((nI 2).toUInt32 &&& Int32.toUInt32 31)).toInt32) &&& 858993459)).toUInt32 >>> ((nI 4).toUInt32 &&& Int32.toUInt32 31)).toInt32)) &&& 252645135) + ((((((((nI u) - ((((nI u).toUInt32 >>> ((nI 1).toUInt32 &&& Int32.toUInt32 31)).toInt32) &&& 1431655765)) &&& 858993459) + (((((nI u) - ((((nI u).toUInt32 >>> ((nI 1).toUInt32 &&& Int32.toUInt32 31)).toInt32) &&& 1431655765)).toUInt32 >>> ((nI 2).toUInt32 &&& Int32.toUInt32 31)).toInt32) &&& 858993459)) + ((((((nI u) - ((((nI u).toUInt32 >>> ((nI 1).toUInt32 &&& Int32.toUInt32 31)).toInt32) &&& 1431655765)) &&& 858993459) + (((((nI u) - ((((nI u).toUInt32 >>> ((nI 1).toUInt32 &&& Int32.toUInt32 31)).toInt32) &&& 1431655765)).toUInt32 >>> ((nI 2).toUInt32 &&& Int32.toUInt32 31)).toInt32) &&& 858993459)).toUInt32 >>> ((nI 4).toUInt32 &&& Int32.toUInt32 31)).toInt32)) &&& 252645135).toUInt32 >>> ((nI 8).toUInt32 &&& Int32.toUInt32 31)).toInt32)).toUInt32 >>> ((nI 16).toUInt32 &&& Int32.toUInt32 31)).toInt32) hx hb dJ6_bitCount_0f7a4_45 rfl ?_
  refine lv_iadd hx hb dJ6_bitCount_0f7a4_46 ?_
  refine lv_istore_n (lv' := [(0, .int ((((((((nI u) - ((((nI u).toUInt32 >>> ((nI 1).toUInt32 &&& Int32.toUInt32 31)).toInt32) &&& 1431655765)) &&& 858993459) + (((((nI u) - ((((nI u).toUInt32 >>> ((nI 1).toUInt32 &&& Int32.toUInt32 31)).toInt32) &&& 1431655765)).toUInt32 >>> ((nI 2).toUInt32 &&& Int32.toUInt32 31)).toInt32) &&& 858993459)) + ((((((nI u) - ((((nI u).toUInt32 >>> ((nI 1).toUInt32 &&& Int32.toUInt32 31)).toInt32) &&& 1431655765)) &&& 858993459) + (((((nI u) - ((((nI u).toUInt32 >>> ((nI 1).toUInt32 &&& Int32.toUInt32 31)).toInt32) &&& 1431655765)).toUInt32 >>> ((nI 2).toUInt32 &&& Int32.toUInt32 31)).toInt32) &&& 858993459)).toUInt32 >>> ((nI 4).toUInt32 &&& Int32.toUInt32 31)).toInt32)) &&& 252645135) + ((((((((nI u) - ((((nI u).toUInt32 >>> ((nI 1).toUInt32 &&& Int32.toUInt32 31)).toInt32) &&& 1431655765)) &&& 858993459) + (((((nI u) - ((((nI u).toUInt32 >>> ((nI 1).toUInt32 &&& Int32.toUInt32 31)).toInt32) &&& 1431655765)).toUInt32 >>> ((nI 2).toUInt32 &&& Int32.toUInt32 31)).toInt32) &&& 858993459)) + ((((((nI u) - ((((nI u).toUInt32 >>> ((nI 1).toUInt32 &&& Int32.toUInt32 31)).toInt32) &&& 1431655765)) &&& 858993459) + (((((nI u) - ((((nI u).toUInt32 >>> ((nI 1).toUInt32 &&& Int32.toUInt32 31)).toInt32) &&& 1431655765)).toUInt32 >>> ((nI 2).toUInt32 &&& Int32.toUInt32 31)).toInt32) &&& 858993459)).toUInt32 >>> ((nI 4).toUInt32 &&& Int32.toUInt32 31)).toInt32)) &&& 252645135).toUInt32 >>> ((nI 8).toUInt32 &&& Int32.toUInt32 31)).toInt32)) + (((((((((nI u) - ((((nI u).toUInt32 >>> ((nI 1).toUInt32 &&& Int32.toUInt32 31)).toInt32) &&& 1431655765)) &&& 858993459) + (((((nI u) - ((((nI u).toUInt32 >>> ((nI 1).toUInt32 &&& Int32.toUInt32 31)).toInt32) &&& 1431655765)).toUInt32 >>> ((nI 2).toUInt32 &&& Int32.toUInt32 31)).toInt32) &&& 858993459)) + ((((((nI u) - ((((nI u).toUInt32 >>> ((nI 1).toUInt32 &&& Int32.toUInt32 31)).toInt32) &&& 1431655765)) &&& 858993459) + (((((nI u) - ((((nI u).toUInt32 >>> ((nI 1).toUInt32 &&& Int32.toUInt32 31)).toInt32) &&& 1431655765)).toUInt32 >>> ((nI 2).toUInt32 &&& Int32.toUInt32 31)).toInt32) &&& 858993459)).toUInt32 >>> ((nI 4).toUInt32 &&& Int32.toUInt32 31)).toInt32)) &&& 252645135) + ((((((((nI u) - ((((nI u).toUInt32 >>> ((nI 1).toUInt32 &&& Int32.toUInt32 31)).toInt32) &&& 1431655765)) &&& 858993459) + (((((nI u) - ((((nI u).toUInt32 >>> ((nI 1).toUInt32 &&& Int32.toUInt32 31)).toInt32) &&& 1431655765)).toUInt32 >>> ((nI 2).toUInt32 &&& Int32.toUInt32 31)).toInt32) &&& 858993459)) + ((((((nI u) - ((((nI u).toUInt32 >>> ((nI 1).toUInt32 &&& Int32.toUInt32 31)).toInt32) &&& 1431655765)) &&& 858993459) + (((((nI u) - ((((nI u).toUInt32 >>> ((nI 1).toUInt32 &&& Int32.toUInt32 31)).toInt32) &&& 1431655765)).toUInt32 >>> ((nI 2).toUInt32 &&& Int32.toUInt32 31)).toInt32) &&& 858993459)).toUInt32 >>> ((nI 4).toUInt32 &&& Int32.toUInt32 31)).toInt32)) &&& 252645135).toUInt32 >>> ((nI 8).toUInt32 &&& Int32.toUInt32 31)).toInt32)).toUInt32 >>> ((nI 16).toUInt32 &&& Int32.toUInt32 31)).toInt32)))]) hx hb dJ6_bitCount_0f7a4_47 rfl hl (by decide) rfl (fun ls hl => ?_)
  refine lv_iload_n hx hb dJ6_bitCount_0f7a4_48 rfl (lv_at hl 0 rfl) ?_
  refine lv_bipush (v := nI 63) hx hb dJ6_bitCount_0f7a4_49 (by decide) ?_
  refine lv_iand hx hb dJ6_bitCount_0f7a4_51 ?_
  exact e_Ri hx hb hr rfl hlocks ((by decide +kernel : ∀ u, u < 8 → ((((((((nI u) - ((((nI u).toUInt32 >>> ((nI 1).toUInt32 &&& Int32.toUInt32 31)).toInt32) &&& 1431655765)) &&& 858993459) + (((((nI u) - ((((nI u).toUInt32 >>> ((nI 1).toUInt32 &&& Int32.toUInt32 31)).toInt32) &&& 1431655765)).toUInt32 >>> ((nI 2).toUInt32 &&& Int32.toUInt32 31)).toInt32) &&& 858993459)) + ((((((nI u) - ((((nI u).toUInt32 >>> ((nI 1).toUInt32 &&& Int32.toUInt32 31)).toInt32) &&& 1431655765)) &&& 858993459) + (((((nI u) - ((((nI u).toUInt32 >>> ((nI 1).toUInt32 &&& Int32.toUInt32 31)).toInt32) &&& 1431655765)).toUInt32 >>> ((nI 2).toUInt32 &&& Int32.toUInt32 31)).toInt32) &&& 858993459)).toUInt32 >>> ((nI 4).toUInt32 &&& Int32.toUInt32 31)).toInt32)) &&& 252645135) + ((((((((nI u) - ((((nI u).toUInt32 >>> ((nI 1).toUInt32 &&& Int32.toUInt32 31)).toInt32) &&& 1431655765)) &&& 858993459) + (((((nI u) - ((((nI u).toUInt32 >>> ((nI 1).toUInt32 &&& Int32.toUInt32 31)).toInt32) &&& 1431655765)).toUInt32 >>> ((nI 2).toUInt32 &&& Int32.toUInt32 31)).toInt32) &&& 858993459)) + ((((((nI u) - ((((nI u).toUInt32 >>> ((nI 1).toUInt32 &&& Int32.toUInt32 31)).toInt32) &&& 1431655765)) &&& 858993459) + (((((nI u) - ((((nI u).toUInt32 >>> ((nI 1).toUInt32 &&& Int32.toUInt32 31)).toInt32) &&& 1431655765)).toUInt32 >>> ((nI 2).toUInt32 &&& Int32.toUInt32 31)).toInt32) &&& 858993459)).toUInt32 >>> ((nI 4).toUInt32 &&& Int32.toUInt32 31)).toInt32)) &&& 252645135).toUInt32 >>> ((nI 8).toUInt32 &&& Int32.toUInt32 31)).toInt32)) + (((((((((nI u) - ((((nI u).toUInt32 >>> ((nI 1).toUInt32 &&& Int32.toUInt32 31)).toInt32) &&& 1431655765)) &&& 858993459) + (((((nI u) - ((((nI u).toUInt32 >>> ((nI 1).toUInt32 &&& Int32.toUInt32 31)).toInt32) &&& 1431655765)).toUInt32 >>> ((nI 2).toUInt32 &&& Int32.toUInt32 31)).toInt32) &&& 858993459)) + ((((((nI u) - ((((nI u).toUInt32 >>> ((nI 1).toUInt32 &&& Int32.toUInt32 31)).toInt32) &&& 1431655765)) &&& 858993459) + (((((nI u) - ((((nI u).toUInt32 >>> ((nI 1).toUInt32 &&& Int32.toUInt32 31)).toInt32) &&& 1431655765)).toUInt32 >>> ((nI 2).toUInt32 &&& Int32.toUInt32 31)).toInt32) &&& 858993459)).toUInt32 >>> ((nI 4).toUInt32 &&& Int32.toUInt32 31)).toInt32)) &&& 252645135) + ((((((((nI u) - ((((nI u).toUInt32 >>> ((nI 1).toUInt32 &&& Int32.toUInt32 31)).toInt32) &&& 1431655765)) &&& 858993459) + (((((nI u) - ((((nI u).toUInt32 >>> ((nI 1).toUInt32 &&& Int32.toUInt32 31)).toInt32) &&& 1431655765)).toUInt32 >>> ((nI 2).toUInt32 &&& Int32.toUInt32 31)).toInt32) &&& 858993459)) + ((((((nI u) - ((((nI u).toUInt32 >>> ((nI 1).toUInt32 &&& Int32.toUInt32 31)).toInt32) &&& 1431655765)) &&& 858993459) + (((((nI u) - ((((nI u).toUInt32 >>> ((nI 1).toUInt32 &&& Int32.toUInt32 31)).toInt32) &&& 1431655765)).toUInt32 >>> ((nI 2).toUInt32 &&& Int32.toUInt32 31)).toInt32) &&& 858993459)).toUInt32 >>> ((nI 4).toUInt32 &&& Int32.toUInt32 31)).toInt32)) &&& 252645135).toUInt32 >>> ((nI 8).toUInt32 &&& Int32.toUInt32 31)).toInt32)).toUInt32 >>> ((nI 16).toUInt32 &&& Int32.toUInt32 31)).toInt32)) &&& (nI 63) = nI (cnt3 u)) u hu) dJ6_bitCount_0f7a4_52

/-- X6_variables -/
abbrev rm_c_X6_variables : Room := { frames := 1, cells := 0, slots := 0, locals := 20 }
set_option maxHeartbeats 4000000 in
set_option maxRecDepth 100000 in
theorem c_X6_variables (l : Launch) (G : GG) (z : Nat) (ad : Nat → Nat) (M : Mem) {k : Nat} {aa : Nat} {uv : Nat} (hk : M k = some (cQuestion ad k aa uv)) (huv : uv < 8) : Met l yX6_variables wsX6_variables rm_c_X6_variables (Pr G z ad M [.ref (ad k)]) (vp_Si (fun r : Int32 => r = nI (cnt3 uv))) 0 0 (fun _ => False) := by
  refine Met.ofW (cc := cX6_variables) (maxL := 1) (ret := (some .int)) (by decide) rfl ?_
  intro p e s m args below meth c s₁ B hml hv
  obtain ⟨rfl, hv⟩ := hv
  have hI := Iv.entry hv
  have hx := B.exec
  have hb := B.bytes
  have hr := B.returns
  have hts := atoms_spec (ws := wsX6_variables) B.pre
  have hown : s.vm.findClass RX6 = some m.cls := findClass_of_methodNamed B.named
  have hlocks := B.notSynchronized
  have i_RX6 : ∀ w ∈ u_ws RX6 TX6 8, w ∈ wsX6_variables := fun w h => List.mem_cons_of_mem _ (iu_X6 w h)
  have f_35 := hts _ (List.mem_cons_of_mem _ (lwg_of t_196 rfl))
  have hl := lv_entry ([.ref (ad k)]) (n := 1) (Nat.le_of_ble_eq_true rfl)
  rw [lg_entry_eq]
  generalize (lg_sl ([.ref (ad k)]) ++ List.replicate (1 - (lg_sl ([.ref (ad k)])).length) Slot.unset).toArray = ls at hl ⊢
  have hl : lv_has ls 1 [(0, .ref (ad k))] := hl
  refine lv_aload_n hx hb dX6_variables_0 rfl (lv_at hl 0 rfl) ?_
  refine h_get (C := RX6) (T := TX6) (N := 8) hx hb hts i_RX6 hown hI hk rfl 7 (by decide) f_35 rfl rfl dX6_variables_1 ?_
  refine k_Ri (va_runS (As := [.int (nI uv)]) (rest := []) ⟨hx, hb, hml, hown, hts⟩ (c_J6_bitCount_0f7a4 l G z ad M (u := uv) (by omega)) (va_cwS 1 hts (gS (lwg_of t_462 rfl) (lwg_of t_463 rfl) (lwg_of t_32 rfl) (lwg_of t_464 rfl)) rfl rfl rfl (by decide +kernel) ⟨Nat.le_of_ble_eq_true rfl, Nat.le_of_ble_eq_true rfl⟩) hI.preS rfl rfl hl.1 rfl (lv_room (Nat.le_of_ble_eq_true rfl)) dX6_variables_4 ⟨Nat.le_of_ble_eq_true rfl, Nat.le_of_ble_eq_true rfl⟩) (fun _ h => h) (fun r_1 hp_2 => ?_)
  rw [hp_2]
  exact e_Ri hx hb hr rfl hlocks (rfl) dX6_variables_7
