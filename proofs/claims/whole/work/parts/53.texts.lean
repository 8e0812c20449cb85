/-- the texts r t a b c not k: how long, and their letters -/
abbrev sLen (k : Nat) : Nat := ([1, 1, 1, 1, 1, 3, 1] : List Nat).getD k 0
abbrev sB8 (k j : Nat) : Int32 := (([[114], [116], [97], [98], [99], [110, 111, 116], [107]] : List (List Int32)).getD k []).getD j 0
abbrev sBy (k j : Nat) : Nat := (([[114], [116], [97], [98], [99], [110, 111, 116], [107]] : List (List Nat)).getD k []).getD j 0
theorem sLen_le : ∀ k, k < 7 → sLen k ≤ 3 := by decide +kernel
theorem sLen_sh : ∀ k, k < 7 → nI (sLen k) >>> (nI 0 &&& 31) = nI (sLen k) := by decide +kernel
theorem sB8_c : ∀ k, k < 7 → ∀ j, j < sLen k → ((sB8 k j &&& nI 255).toUInt32 % 65536).toInt32 = nI (sBy k j) := by decide +kernel
theorem sBy_lt : ∀ k, k < 7 → ∀ j, j < sLen k → 0 < sBy k j ∧ sBy k j < 128 := by decide +kernel
theorem sBy_nar : ∀ c, c < 128 → ((nI c).toUInt32 % 65536).toInt32 = nI c := by decide +kernel
theorem sBy_n {c : Nat} (h : c < 128) : narrow .char (.int (nI c)) = .int (nI c) := congrArg Value.int (sBy_nar c h)
theorem sB_eq {v c : Nat} (hv : v < 256) (hc : c < 128) : sB v = nI c ↔ v = c := by
  by_cases h : v < 128
  · rw [sB_lo v h]; exact nI_eq (by omega) (by omega)
  · have h1 := sB_hi (v - 128) (by omega)
    rw [show 128 + (v - 128) = v by omega] at h1
    refine ⟨fun e => ?_, fun e => absurd e (by omega)⟩
    rw [e, Int32.lt_iff_toInt_lt, nI_toInt (by omega), z0I] at h1
    omega
section IK
variable {s : State} {H : Heap} {locs : List Loc} {G : GG} {z : Nat} {ad : Nat → Nat} {M : Mem}
theorem iv_S (hI : Iv G z ad M s H locs) : vk_S 7 [1, 1, 1, 1, 1, 3, 1] [[114], [116], [97], [98], [99], [110, 111, 116], [107]] G.2.2.1 G.2.2.2.1 (fr z) s s.heap := hI.1.2.2.2.2.1
theorem iv_cs (hI : Iv G z ad M s H locs) : va_Z "java/lang/String" "COMPACT_STRINGS" "Z" (.int 1) (fr z) s s.heap := (iv_ex hI).2.2.2.2.1
theorem iv_sf (hI : Iv G z ad M s H locs) : va_Zq "jdk/internal/util/Preconditions" "SIOOBE_FORMATTER" "Ljava/util/function/BiFunction;" (fr z) s s.heap := (iv_ex hI).2.2.2.2.2
theorem Iv.preK (hI : Iv G z ad M s H locs) {As : List Value} {k : Nat} (hk : k < 7) : PreV s H "java/lang/String" (G.2.2.1 k) (Pr G z ad M (.ref (G.2.2.1 k) :: As)) As :=
  ⟨Pr.blind, vk_recv (iv_S hI) hk hI.S, fun U hU hW => ⟨rfl, hI.1.to hW (fun a h1 h2 => by rw [hU]; exact hI.2.2.1.2.1 a h1 h2), by rw [hU]; exact hI.2.1, by rw [hU]; exact Nat.le_trans hI.2.2.2 hI.2.2.1.1⟩⟩
end IK

/-- J0_coder_7d493 -/
abbrev rm_c_J0_coder_7d493 : Room := { frames := 0, cells := 0, slots := 0, locals := 0 }
set_option maxHeartbeats 4000000 in
set_option maxRecDepth 100000 in
theorem c_J0_coder_7d493 (l : Launch) (G : GG) (z : Nat) (ad : Nat → Nat) (M : Mem) {k : Nat}  (hk7 : k < 7) : Met l yJ0_coder_7d493 wsJ0_coder_7d493 rm_c_J0_coder_7d493 (Pr G z ad M [.ref (G.2.2.1 k)]) (vp_Si (fun r : Int32 => r = nI 0)) 0 0 (fun _ => False) := by
  refine Met.ofW (cc := cJ0_coder_7d493) (maxL := 1) (ret := (some .byte)) (by decide) rfl ?_
  intro p e s m args below meth c s₁ B hml hv
  obtain ⟨rfl, hv⟩ := hv
  have hI := Iv.entry hv
  have hx := B.exec
  have hb := B.bytes
  have hr := B.returns
  have hts := atoms_spec (ws := wsJ0_coder_7d493) B.pre
  have hown : s.vm.findClass RJ0 = some m.cls := findClass_of_methodNamed B.named
  have hlocks := B.notSynchronized
  have f_38 := hts _ (List.mem_cons_of_mem _ (lwg_of t_1258 rfl))
  have f_15 := hts _ (List.mem_cons_of_mem _ (lwg_of t_1399 rfl))
  have hl := lv_entry ([.ref (G.2.2.1 k)]) (n := 1) (Nat.le_of_ble_eq_true rfl)
  rw [lg_entry_eq]
  generalize (lg_sl ([.ref (G.2.2.1 k)]) ++ List.replicate (1 - (lg_sl ([.ref (G.2.2.1 k)])).length) Slot.unset).toArray = ls at hl ⊢
  have hl : lv_has ls 1 [(0, .ref (G.2.2.1 k))] := hl
  refine va_gets (A := fr z) hx hb (iv_cs hI) hI.S hown f_38 (fun _ h => h) dJ0_coder_7d493_0 ?_
  refine lv_if_eq (tgt := 13) hx hb dJ0_coder_7d493_3 (by decide) (fun c_1 => ?_) (fun c_1 => ?_)
  · -- 3: nI 1 eq
    exact absurd c_1 (by decide)
  · -- 3: nI 1 ne
    refine lv_aload_n hx hb dJ0_coder_7d493_6 rfl (lv_at hl 0 rfl) ?_
    refine vk_getf (A := fr z) hx hb ((iv_S hI).1 k hk7).2.1 hI.S hown f_15 (fun _ h => h) dJ0_coder_7d493_7 ?_
    refine n_eq (show (0 : Int32) = nI 0 from rfl) ?_
    refine lv_goto (tgt := 14) hx hb dJ0_coder_7d493_10 (by decide) ?_
    exact e_Ri hx hb hr rfl hlocks (rfl) dJ0_coder_7d493_14

/-- J0_isLatin1_aae02 -/
abbrev rm_c_J0_isLatin1_aae02 : Room := { frames := 0, cells := 0, slots := 0, locals := 0 }
set_option maxHeartbeats 4000000 in
set_option maxRecDepth 100000 in
theorem c_J0_isLatin1_aae02 (l : Launch) (G : GG) (z : Nat) (ad : Nat → Nat) (M : Mem) {k : Nat}  (hk7 : k < 7) : Met l yJ0_isLatin1_aae02 wsJ0_isLatin1_aae02 rm_c_J0_isLatin1_aae02 (Pr G z ad M [.ref (G.2.2.1 k)]) (vp_Si (fun r : Int32 => r = nI 1)) 0 0 (fun _ => False) := by
  refine Met.ofW (cc := cJ0_isLatin1_aae02) (maxL := 1) (ret := (some .boolean)) (by decide) rfl ?_
  intro p e s m args below meth c s₁ B hml hv
  obtain ⟨rfl, hv⟩ := hv
  have hI := Iv.entry hv
  have hx := B.exec
  have hb := B.bytes
  have hr := B.returns
  have hts := atoms_spec (ws := wsJ0_isLatin1_aae02) B.pre
  have hown : s.vm.findClass RJ0 = some m.cls := findClass_of_methodNamed B.named
  have hlocks := B.notSynchronized
  have f_38 := hts _ (List.mem_cons_of_mem _ (lwg_of t_1258 rfl))
  have f_15 := hts _ (List.mem_cons_of_mem _ (lwg_of t_1399 rfl))
  have hl := lv_entry ([.ref (G.2.2.1 k)]) (n := 1) (Nat.le_of_ble_eq_true rfl)
  rw [lg_entry_eq]
  generalize (lg_sl ([.ref (G.2.2.1 k)]) ++ List.replicate (1 - (lg_sl ([.ref (G.2.2.1 k)])).length) Slot.unset).toArray = ls at hl ⊢
  have hl : lv_has ls 1 [(0, .ref (G.2.2.1 k))] := hl
  refine va_gets (A := fr z) hx hb (iv_cs hI) hI.S hown f_38 (fun _ h => h) dJ0_isLatin1_aae02_0 ?_
  refine lv_if_eq (tgt := 17) hx hb dJ0_isLatin1_aae02_3 (by decide) (fun c_1 => ?_) (fun c_1 => ?_)
  · -- 3: nI 1 eq
    exact absurd c_1 (by decide)
  · -- 3: nI 1 ne
    refine lv_aload_n hx hb dJ0_isLatin1_aae02_6 rfl (lv_at hl 0 rfl) ?_
    refine vk_getf (A := fr z) hx hb ((iv_S hI).1 k hk7).2.1 hI.S hown f_15 (fun _ h => h) dJ0_isLatin1_aae02_7 ?_
    refine n_eq (show (0 : Int32) = nI 0 from rfl) ?_
    refine lv_if_ne (tgt := 17) hx hb dJ0_isLatin1_aae02_10 (by decide) (fun c_2 => ?_) (fun c_2 => ?_)
    · -- 10: nI 0 ne
      exact absurd (by decide) c_2
    · -- 10: nI 0 eq
      refine lv_iconst (v := nI 1) hx hb dJ0_isLatin1_aae02_13 (by decide) ?_
      refine lv_goto (tgt := 18) hx hb dJ0_isLatin1_aae02_14 (by decide) ?_
      exact e_Ri hx hb hr rfl hlocks (rfl) dJ0_isLatin1_aae02_18

/-- J0_length_8abf5 -/
abbrev rm_c_J0_length_8abf5 : Room := { frames := 1, cells := 0, slots := 0, locals := 20 }
set_option maxHeartbeats 4000000 in
set_option maxRecDepth 100000 in
theorem c_J0_length_8abf5 (l : Launch) (G : GG) (z : Nat) (ad : Nat → Nat) (M : Mem) {k : Nat}  (hk7 : k < 7) : Met l yJ0_length_8abf5 wsJ0_length_8abf5 rm_c_J0_length_8abf5 (Pr G z ad M [.ref (G.2.2.1 k)]) (vp_Si (fun r : Int32 => r = nI (sLen k))) 0 0 (fun _ => False) := by
  refine Met.ofW (cc := cJ0_length_8abf5) (maxL := 1) (ret := (some .int)) (by decide) rfl ?_
  intro p e s m args below meth c s₁ B hml hv
  obtain ⟨rfl, hv⟩ := hv
  have hI := Iv.entry hv
  have hx := B.exec
  have hb := B.bytes
  have hr := B.returns
  have hts := atoms_spec (ws := wsJ0_length_8abf5) B.pre
  have hown : s.vm.findClass RJ0 = some m.cls := findClass_of_methodNamed B.named
  have hlocks := B.notSynchronized
  have f_9 := hts _ (List.mem_cons_of_mem _ (lwg_of t_1398 rfl))
  have hl := lv_entry ([.ref (G.2.2.1 k)]) (n := 1) (Nat.le_of_ble_eq_true rfl)
  rw [lg_entry_eq]
  generalize (lg_sl ([.ref (G.2.2.1 k)]) ++ List.replicate (1 - (lg_sl ([.ref (G.2.2.1 k)])).length) Slot.unset).toArray = ls at hl ⊢
  have hl : lv_has ls 1 [(0, .ref (G.2.2.1 k))] := hl
  refine lv_aload_n hx hb dJ0_length_8abf5_0 rfl (lv_at hl 0 rfl) ?_
  refine vk_getf (A := fr z) hx hb ((iv_S hI).1 k hk7).2.2.1 hI.S hown f_9 (fun _ h => h) dJ0_length_8abf5_1 ?_
  refine va_tlen (A := fr z) (v := nI (sLen k)) hx hb ((iv_S hI).1 k hk7).2.2.2 hI.S rfl dJ0_length_8abf5_4 ?_
  refine lv_aload_n hx hb dJ0_length_8abf5_5 rfl (lv_at hl 0 rfl) ?_
  refine k_Ri (va_runV (As := []) (rest := [.int (nI (sLen k))]) ⟨hx, hb, hml, hown, hts⟩ (c_J0_coder_7d493 l G z ad M (k := k) (by omega)) (cwV 0 hts (gV (lwg_of t_1254 rfl) (lwg_of t_1255 rfl) (lwg_of t_1256 rfl) (lwg_of t_28 rfl) (lwg_of t_1257 rfl)) rfl rfl rfl (by decide +kernel) ⟨Nat.le_of_ble_eq_true rfl, Nat.le_of_ble_eq_true rfl⟩) (Iv.preK hI hk7) rfl rfl hl.1 rfl (lv_room (Nat.le_of_ble_eq_true rfl)) dJ0_length_8abf5_6 ⟨Nat.le_of_ble_eq_true rfl, Nat.le_of_ble_eq_true rfl⟩) (fun _ h => h) (fun r_1 hp_2 => ?_)
  rw [hp_2]
  refine lv_ishr hx hb dJ0_length_8abf5_9 ?_
  refine n_eq (show _ = nI (sLen k) from sLen_sh k hk7) ?_
  exact e_Ri hx hb hr rfl hlocks (rfl) dJ0_length_8abf5_10

/-- J3_checkIndex_8e157 -/
abbrev rm_c_J3_checkIndex_r : Room := { frames := 0, cells := 0, slots := 0, locals := 0 }
set_option maxHeartbeats 4000000 in
set_option maxRecDepth 100000 in
theorem c_J3_checkIndex_r (l : Launch) (G : GG) (z : Nat) (ad : Nat → Nat) (M : Mem) {i : Nat} {n : Nat} {t9 : Nat}  (hi : i < n) (hn : n < 2 ^ 31) : Met l yJ3_checkIndex_8e157 wsJ3_checkIndex_8e157 rm_c_J3_checkIndex_r (Pr G z ad M [.int (nI i), .int (nI n), .ref t9]) (vp_Si (fun r : Int32 => r = nI i)) 0 0 (fun _ => False) := by
  refine Met.ofW (cc := cJ3_checkIndex_8e157) (maxL := 3) (ret := (some .int)) (by decide) rfl ?_
  intro p e s m args below meth c s₁ B hml hv
  obtain ⟨rfl, hv⟩ := hv
  have hI := Iv.entry hv
  have hx := B.exec
  have hb := B.bytes
  have hr := B.returns
  have hts := atoms_spec (ws := wsJ3_checkIndex_8e157) B.pre
  have hown : s.vm.findClass RJ3 = some m.cls := findClass_of_methodNamed B.named
  have hlocks := B.notSynchronized
  have hl := lv_entry ([.int (nI i), .int (nI n), .ref t9]) (n := 3) (Nat.le_of_ble_eq_true rfl)
  rw [lg_entry_eq]
  generalize (lg_sl ([.int (nI i), .int (nI n), .ref t9]) ++ List.replicate (3 - (lg_sl ([.int (nI i), .int (nI n), .ref t9])).length) Slot.unset).toArray = ls at hl ⊢
  have hl : lv_has ls 3 [(0, .int (nI i)), (1, .int (nI n)), (2, .ref t9)] := hl
  refine lv_iload_n hx hb dJ3_checkIndex_8e157_0 rfl (lv_at hl 0 rfl) ?_
  refine lv_if_lt (tgt := 9) hx hb dJ3_checkIndex_8e157_1 (by decide) (fun c_1 => ?_) (fun c_1 => ?_)
  · -- 1: nI i lt
    have c_1 : i < 0 := (nI_ltI (a := i) (b := 0) (by omega) (by omega)).mp (c_1)
    omega
  · -- 1: nI i ge
    have c_1 : 0 ≤ i := by have h := mt (nI_ltI (a := i) (b := 0) (by omega) (by omega)).mpr c_1; omega
    refine lv_iload_n hx hb dJ3_checkIndex_8e157_4 rfl (lv_at hl 0 rfl) ?_
    refine lv_iload_n hx hb dJ3_checkIndex_8e157_5 rfl (lv_at hl 1 rfl) ?_
    refine lv_icmp_lt (tgt := 16) hx hb dJ3_checkIndex_8e157_6 (by decide) (fun c_2 => ?_) (fun c_2 => ?_)
    · -- 6: nI i lt
      have c_2 : i < n := (nI_ltI (a := i) (b := n) (by omega) (by omega)).mp (c_2)
      refine lv_iload_n hx hb dJ3_checkIndex_8e157_16 rfl (lv_at hl 0 rfl) ?_
      exact e_Ri hx hb hr rfl hlocks (rfl) dJ3_checkIndex_8e157_17
    · -- 6: nI i ge
      have c_2 : n ≤ i := by have h := mt (nI_ltI (a := i) (b := n) (by omega) (by omega)).mpr c_2; omega
      omega

/-- J0_checkIndex_df160 -/
abbrev rm_c_J0_checkIndex_df160 : Room := { frames := 1, cells := 0, slots := 0, locals := 22 }
set_option maxHeartbeats 4000000 in
set_option maxRecDepth 100000 in
theorem c_J0_checkIndex_df160 (l : Launch) (G : GG) (z : Nat) (ad : Nat → Nat) (M : Mem) {i : Nat} {n : Nat}  (hi : i < n) (hn : n < 2 ^ 31) : Met l yJ0_checkIndex_df160 wsJ0_checkIndex_df160 rm_c_J0_checkIndex_df160 (Pr G z ad M [.int (nI i), .int (nI n)]) (Nv G z ad (fun (M' : Mem) => (∀ j : Nat,  M' j = M j))) 0 0 (fr z) := by
  refine Met.ofW (cc := cJ0_checkIndex_df160) (maxL := 2) (ret := none) (by decide) rfl ?_
  intro p e s m args below meth c s₁ B hml hv
  obtain ⟨rfl, hv⟩ := hv
  have hI := Iv.entry hv
  have hx := B.exec
  have hb := B.bytes
  have hr := B.returns
  have hts := atoms_spec (ws := wsJ0_checkIndex_df160) B.pre
  have hown : s.vm.findClass RJ0 = some m.cls := findClass_of_methodNamed B.named
  have hlocks := B.notSynchronized
  have f_1053 := hts _ (List.mem_cons_of_mem _ (lwg_of t_1274 rfl))
  have hl := lv_entry ([.int (nI i), .int (nI n)]) (n := 2) (Nat.le_of_ble_eq_true rfl)
  rw [lg_entry_eq]
  generalize (lg_sl ([.int (nI i), .int (nI n)]) ++ List.replicate (2 - (lg_sl ([.int (nI i), .int (nI n)])).length) Slot.unset).toArray = ls at hl ⊢
  have hl : lv_has ls 2 [(0, .int (nI i)), (1, .int (nI n))] := hl
  refine lv_iload_n hx hb dJ0_checkIndex_df160_0 rfl (lv_at hl 0 rfl) ?_
  refine lv_iload_n hx hb dJ0_checkIndex_df160_1 rfl (lv_at hl 1 rfl) ?_
  by_cases hc_1 : va_Z "jdk/internal/util/Preconditions" "SIOOBE_FORMATTER" "Ljava/util/function/BiFunction;" .null (fr z) s s.heap
  · skip
    refine va_gets (A := fr z) hx hb hc_1 hI.S hown f_1053 (fun _ h => h) dJ0_checkIndex_df160_2 ?_
    refine k_Ri (va_runS (As := [.int (nI i), .int (nI n), .null]) (rest := []) ⟨hx, hb, hml, hown, hts⟩ (c_J3_checkIndex_8e157 l G z ad M (i := i) (n := n) (by omega) (by omega)) (va_cwS 3 hts (gS (lwg_of t_1276 rfl) (lwg_of t_344 rfl) (lwg_of t_24 rfl) (lwg_of t_345 rfl)) rfl rfl rfl (by decide +kernel) ⟨Nat.le_of_ble_eq_true rfl, Nat.le_of_ble_eq_true rfl⟩) hI.preS rfl rfl hl.1 rfl (lv_room (Nat.le_of_ble_eq_true rfl)) dJ0_checkIndex_df160_5 ⟨Nat.le_of_ble_eq_true rfl, Nat.le_of_ble_eq_true rfl⟩) (fun _ h => h) (fun r_2 hp_3 => ?_)
    rw [hp_3]
    refine lv_pop hx hb dJ0_checkIndex_df160_8 rfl ?_
    exact e_Nv hx hb hr hlocks hI (fun j  => rfl) dJ0_checkIndex_df160_9
  · skip
    obtain ⟨t9, h9⟩ := (iv_sf hI).resolve_left hc_1
    refine va_gets (A := fr z) hx hb h9 hI.S hown f_1053 (fun _ h => h) dJ0_checkIndex_df160_2 ?_
    refine k_Ri (va_runS (As := [.int (nI i), .int (nI n), .ref t9]) (rest := []) ⟨hx, hb, hml, hown, hts⟩ (c_J3_checkIndex_r l G z ad M (i := i) (n := n) (t9 := t9) (by omega) (by omega)) (va_cwS 3 hts (gS (lwg_of t_1276 rfl) (lwg_of t_344 rfl) (lwg_of t_24 rfl) (lwg_of t_345 rfl)) rfl rfl rfl (by decide +kernel) ⟨Nat.le_of_ble_eq_true rfl, Nat.le_of_ble_eq_true rfl⟩) hI.preS rfl rfl hl.1 rfl (lv_room (Nat.le_of_ble_eq_true rfl)) dJ0_checkIndex_df160_5 ⟨Nat.le_of_ble_eq_true rfl, Nat.le_of_ble_eq_true rfl⟩) (fun _ h => h) (fun r_4 hp_5 => ?_)
    rw [hp_5]
    refine lv_pop hx hb dJ0_checkIndex_df160_8 rfl ?_
    exact e_Nv hx hb hr hlocks hI (fun j  => rfl) dJ0_checkIndex_df160_9

/-- J1_charAt_3b067 -/
abbrev rm_c_J1_charAt_3b067 : Room := { frames := 2, cells := 0, slots := 0, locals := 43 }
set_option maxHeartbeats 4000000 in
set_option maxRecDepth 100000 in
theorem c_J1_charAt_3b067 (l : Launch) (G : GG) (z : Nat) (ad : Nat → Nat) (M : Mem) {k : Nat} {j : Nat}  (hk7 : k < 7) (hj : j < sLen k) : Met l yJ1_charAt_3b067 wsJ1_charAt_3b067 rm_c_J1_charAt_3b067 (Pr G z ad M [.ref (G.2.2.2.1 k), .int (nI j)]) (Ni G z ad (fun (r : Int32) (M' : Mem) => r = nI (sBy k j) ∧ (∀ j : Nat,  M' j = M j))) 0 0 (fr z) := by
  refine Met.ofW (cc := cJ1_charAt_3b067) (maxL := 2) (ret := (some .char)) (by decide) rfl ?_
  intro p e s m args below meth c s₁ B hml hv
  obtain ⟨rfl, hv⟩ := hv
  have hI := Iv.entry hv
  have hx := B.exec
  have hb := B.bytes
  have hr := B.returns
  have hts := atoms_spec (ws := wsJ1_charAt_3b067) B.pre
  have hown : s.vm.findClass RJ1 = some m.cls := findClass_of_methodNamed B.named
  have hlocks := B.notSynchronized
  have hl := lv_entry ([.ref (G.2.2.2.1 k), .int (nI j)]) (n := 2) (Nat.le_of_ble_eq_true rfl)
  rw [lg_entry_eq]
  generalize (lg_sl ([.ref (G.2.2.2.1 k), .int (nI j)]) ++ List.replicate (2 - (lg_sl ([.ref (G.2.2.2.1 k), .int (nI j)])).length) Slot.unset).toArray = ls at hl ⊢
  have hl : lv_has ls 2 [(0, .ref (G.2.2.2.1 k)), (1, .int (nI j))] := hl
  have hl3 := sLen_le k hk7
  refine lv_iload_n hx hb dJ1_charAt_3b067_0 rfl (lv_at hl 1 rfl) ?_
  refine lv_aload_n hx hb dJ1_charAt_3b067_1 rfl (lv_at hl 0 rfl) ?_
  refine va_tlen (A := fr z) (v := nI (sLen k)) hx hb ((iv_S hI).1 k hk7).2.2.2 hI.S rfl dJ1_charAt_3b067_2 ?_
  refine k_Nv (va_runS (As := [.int (nI j), .int (nI (sLen k))]) (rest := []) ⟨hx, hb, hml, hown, hts⟩ (c_J0_checkIndex_df160 l G z ad M (i := j) (n := sLen k) (by omega) (by omega)) (va_cwS 2 hts (gS (lwg_of t_1271 rfl) (lwg_of t_1272 rfl) (lwg_of t_28 rfl) (lwg_of t_1273 rfl)) rfl rfl rfl (by decide +kernel) ⟨Nat.le_of_ble_eq_true rfl, Nat.le_of_ble_eq_true rfl⟩) hI.preS rfl rfl hl.1 rfl (lv_room (Nat.le_of_ble_eq_true rfl)) dJ1_charAt_3b067_3 ⟨Nat.le_of_ble_eq_true rfl, Nat.le_of_ble_eq_true rfl⟩) hI (fun M_3 H_4 locs_5 hp_2 hI => ?_)
  have eM_6 : M = M_3 := (funext hp_2).symm
  subst eM_6
  refine lv_aload_n hx hb dJ1_charAt_3b067_6 rfl (lv_at hl 0 rfl) ?_
  refine lv_iload_n hx hb dJ1_charAt_3b067_7 rfl (lv_at hl 1 rfl) ?_
  refine va_tb (A := fr z) (v := .int (sB8 k j)) hx hb ((iv_S hI).1 k hk7).2.2.2 hI.S (vp_in_nI (by omega) (show sLen k < 2 ^ 31 by omega)) (by rw [nI_clamp (by omega)]) dJ1_charAt_3b067_8 ?_
  refine lv_sipush (v := nI 255) hx hb dJ1_charAt_3b067_9 (by decide) ?_
  refine lv_iand hx hb dJ1_charAt_3b067_12 ?_
  refine lv_i2c (v := (((sB8 k j) &&& (nI 255)).toUInt32 % 65536).toInt32) hx hb dJ1_charAt_3b067_13 rfl ?_
  refine n_eq (show _ = nI (sBy k j) from sB8_c k hk7 j hj) ?_
  exact e_Ni hx hb hr (sBy_n (sBy_lt _ hk7 _ hj).2) hlocks hI ⟨rfl, (fun j  => rfl)⟩ dJ1_charAt_3b067_14

/-- J0_charAt_5068e -/
abbrev rm_c_J0_charAt_5068e : Room := { frames := 3, cells := 0, slots := 0, locals := 64 }
set_option maxHeartbeats 4000000 in
set_option maxRecDepth 100000 in
theorem c_J0_charAt_5068e (l : Launch) (G : GG) (z : Nat) (ad : Nat → Nat) (M : Mem) {k : Nat} {j : Nat}  (hk7 : k < 7) (hj : j < sLen k) : Met l yJ0_charAt_5068e wsJ0_charAt_5068e rm_c_J0_charAt_5068e (Pr G z ad M [.ref (G.2.2.1 k), .int (nI j)]) (Ni G z ad (fun (r : Int32) (M' : Mem) => r = nI (sBy k j) ∧ (∀ j : Nat,  M' j = M j))) 0 0 (fr z) := by
  refine Met.ofW (cc := cJ0_charAt_5068e) (maxL := 2) (ret := (some .char)) (by decide) rfl ?_
  intro p e s m args below meth c s₁ B hml hv
  obtain ⟨rfl, hv⟩ := hv
  have hI := Iv.entry hv
  have hx := B.exec
  have hb := B.bytes
  have hr := B.returns
  have hts := atoms_spec (ws := wsJ0_charAt_5068e) B.pre
  have hown : s.vm.findClass RJ0 = some m.cls := findClass_of_methodNamed B.named
  have hlocks := B.notSynchronized
  have f_9 := hts _ (List.mem_cons_of_mem _ (lwg_of t_1398 rfl))
  have hl := lv_entry ([.ref (G.2.2.1 k), .int (nI j)]) (n := 2) (Nat.le_of_ble_eq_true rfl)
  rw [lg_entry_eq]
  generalize (lg_sl ([.ref (G.2.2.1 k), .int (nI j)]) ++ List.replicate (2 - (lg_sl ([.ref (G.2.2.1 k), .int (nI j)])).length) Slot.unset).toArray = ls at hl ⊢
  have hl : lv_has ls 2 [(0, .ref (G.2.2.1 k)), (1, .int (nI j))] := hl
  refine lv_aload_n hx hb dJ0_charAt_5068e_0 rfl (lv_at hl 0 rfl) ?_
  refine k_Ri (va_runV (As := []) (rest := []) ⟨hx, hb, hml, hown, hts⟩ (c_J0_isLatin1_aae02 l G z ad M (k := k) (by omega)) (cwV 0 hts (gV (lwg_of t_1264 rfl) (lwg_of t_1265 rfl) (lwg_of t_1266 rfl) (lwg_of t_28 rfl) (lwg_of t_1267 rfl)) rfl rfl rfl (by decide +kernel) ⟨Nat.le_of_ble_eq_true rfl, Nat.le_of_ble_eq_true rfl⟩) (Iv.preK hI hk7) rfl rfl hl.1 rfl (lv_room (Nat.le_of_ble_eq_true rfl)) dJ0_charAt_5068e_1 ⟨Nat.le_of_ble_eq_true rfl, Nat.le_of_ble_eq_true rfl⟩) (fun _ h => h) (fun r_1 hp_2 => ?_)
  rw [hp_2]
  refine lv_if_eq (tgt := 16) hx hb dJ0_charAt_5068e_4 (by decide) (fun c_3 => ?_) (fun c_3 => ?_)
  · -- 4: nI 1 eq
    exact absurd c_3 (by decide)
  · -- 4: nI 1 ne
    refine lv_aload_n hx hb dJ0_charAt_5068e_7 rfl (lv_at hl 0 rfl) ?_
    refine vk_getf (A := fr z) hx hb ((iv_S hI).1 k hk7).2.2.1 hI.S hown f_9 (fun _ h => h) dJ0_charAt_5068e_8 ?_
    refine lv_iload_n hx hb dJ0_charAt_5068e_11 rfl (lv_at hl 1 rfl) ?_
    refine k_Ni (va_runS (As := [.ref (G.2.2.2.1 k), .int (nI j)]) (rest := []) ⟨hx, hb, hml, hown, hts⟩ (c_J1_charAt_3b067 l G z ad M (k := k) (j := j) (by omega) (by omega)) (va_cwS 2 hts (gS (lwg_of t_1268 rfl) (lwg_of t_1269 rfl) (lwg_of t_29 rfl) (lwg_of t_1270 rfl)) rfl rfl rfl (by decide +kernel) ⟨Nat.le_of_ble_eq_true rfl, Nat.le_of_ble_eq_true rfl⟩) hI.preS rfl rfl hl.1 rfl (lv_room (Nat.le_of_ble_eq_true rfl)) dJ0_charAt_5068e_12 ⟨Nat.le_of_ble_eq_true rfl, Nat.le_of_ble_eq_true rfl⟩) hI (fun r_4 M_6 H_7 locs_8 hp_5 hI => ?_)
    obtain ⟨hr_9, hF_10⟩ := hp_5
    rw [hr_9]
    exact e_Ni hx hb hr (sBy_n (sBy_lt _ hk7 _ hj).2) hlocks hI ⟨rfl, (fun j  => hF_10 j )⟩ dJ0_charAt_5068e_15

/-- what stands from b to e is the text k -/
def isW (tb : Nat → Nat) (b e k : Nat) : Bool := decide (e - b = sLen k ∧ ∀ j, j < sLen k → tb (b + j) = sBy k j)
theorem isW_n {tb : Nat → Nat} {b e k m : Nat} (h : e - b ≠ sLen k) : false = decide (e - b = sLen k ∧ ∀ j, j < m → tb (b + j) = sBy k j) := (decide_eq_false (fun h2 => h h2.1)).symm
theorem isW_0 {tb : Nat → Nat} {b e k m : Nat} (hm : m = 0) (h : e - b = sLen k) : true = decide (e - b = sLen k ∧ ∀ j, j < m → tb (b + j) = sBy k j) := (decide_eq_true ⟨h, fun j hj => absurd hj (by omega)⟩).symm
theorem isW_y {tb : Nat → Nat} {b e k j : Nat} (h : e - b = sLen k ∧ ∀ i, i < j → tb (b + i) = sBy k i) (h1 : tb (b + j) = sBy k j) : true = decide (e - b = sLen k ∧ ∀ i, i < j + 1 → tb (b + i) = sBy k i) := (decide_eq_true ⟨h.1, lt_s2 h.2 h1⟩).symm
theorem isW_x {tb : Nat → Nat} {b e k j m : Nat} (h1 : tb (b + j) ≠ sBy k j) (hm : j < m) : false = decide (e - b = sLen k ∧ ∀ i, i < m → tb (b + i) = sBy k i) := (decide_eq_false (fun h => h1 (h.2 j hm))).symm
theorem isW_f {tb : Nat → Nat} {b e k j : Nat} (h : false = decide (e - b = sLen k ∧ ∀ i, i < j → tb (b + i) = sBy k i)) (hj : j ≤ sLen k) : false = isW tb b e k := (decide_eq_false (fun h2 => of_decide_eq_false h.symm ⟨h2.1, fun i hi => h2.2 i (by omega)⟩)).symm

/-- X10_isWord -/
abbrev rm_c_X10_isWord : Room := { frames := 4, cells := 0, slots := 0, locals := 85 }
set_option maxHeartbeats 4000000 in
set_option maxRecDepth 100000 in
theorem c_X10_isWord (l : Launch) (G : GG) (z : Nat) (ad : Nat → Nat) (M : Mem) {th : Nat} {ln : Nat} {on : Nat} {ao : Nat} {vr : Nat} {sn : Nat} {tp : Nat} {pt : Nat} {zs : Nat} {bg : Nat} {fa : Int32} {f : Nat → Int32} {tb : Nat → Nat} {k : Nat} (h60 : M 60 = some (cModel ad th ln on ao vr sn tp pt zs bg fa)) (h80 : M 80 = some (aB G 400 f)) (hzs : pt ≤ zs ∧ zs ≤ 400) (htb : ∀ j, j < zs → tb j < 256) (hf : ∀ j, j < zs → f j = sB (tb j)) (hbg : bg ≤ pt) (hk7 : k < 7) : Met l yX10_isWord wsX10_isWord rm_c_X10_isWord (Pr G z ad M [.ref (ad 60), .ref (G.2.2.1 k)]) (Ni G z ad (fun (r : Int32) (M' : Mem) => r = bI (isW tb bg pt k) ∧ (∀ j : Nat,  M' j = M j))) 0 0 (fr z) := by
  refine Met.ofW (cc := cX10_isWord) (maxL := 4) (ret := (some .boolean)) (by decide) rfl ?_
  intro p e s m args below meth c s₁ B hml hv
  obtain ⟨rfl, hv⟩ := hv
  have hI := Iv.entry hv
  have hx := B.exec
  have hb := B.bytes
  have hr := B.returns
  have hts := atoms_spec (ws := wsX10_isWord) B.pre
  have hown : s.vm.findClass RX10 = some m.cls := findClass_of_methodNamed B.named
  have hlocks := B.notSynchronized
  have i_RX10 : ∀ w ∈ u_ws RX10 TX10 38, w ∈ wsX10_isWord := fun w h => List.mem_cons_of_mem _ (iu_X10 w h)
  have f_161 := hts _ (List.mem_cons_of_mem _ (lwg_of t_1040 rfl))
  have f_170 := hts _ (List.mem_cons_of_mem _ (lwg_of t_1042 rfl))
  have f_72 := hts _ (List.mem_cons_of_mem _ (lwg_of t_1038 rfl))
  have hl := lv_entry ([.ref (ad 60), .ref (G.2.2.1 k)]) (n := 4) (Nat.le_of_ble_eq_true rfl)
  rw [lg_entry_eq]
  generalize (lg_sl ([.ref (ad 60), .ref (G.2.2.1 k)]) ++ List.replicate (4 - (lg_sl ([.ref (ad 60), .ref (G.2.2.1 k)])).length) Slot.unset).toArray = ls at hl ⊢
  have hl : lv_has ls 4 [(0, .ref (ad 60)), (1, .ref (G.2.2.1 k))] := hl
  refine w_q (fun Q hQ => ?_)
  have hl3 := sLen_le k hk7
  refine lv_aload_n hx hb dX10_isWord_0 rfl (lv_at hl 0 rfl) ?_
  refine h_get (C := RX10) (T := TX10) (N := 38) hx hb hts i_RX10 hown hI h60 rfl 27 (by decide) f_161 rfl rfl dX10_isWord_1 ?_
  refine lv_aload_n hx hb dX10_isWord_4 rfl (lv_at hl 0 rfl) ?_
  refine h_get (C := RX10) (T := TX10) (N := 38) hx hb hts i_RX10 hown hI h60 rfl 29 (by decide) f_170 rfl rfl dX10_isWord_5 ?_
  refine lv_isub hx hb dX10_isWord_8 ?_
  refine n_eq (pk_sub (a := pt) (b := bg) (by omega)) ?_
  refine lv_aload_n hx hb dX10_isWord_9 rfl (lv_at hl 1 rfl) ?_
  refine k_Ri (va_runV (As := []) (rest := [.int (nI (pt - bg))]) ⟨hx, hb, hml, hown, hts⟩ (c_J0_length_8abf5 l G z ad M (k := k) (by omega)) (cwV 0 hts (gV (lwg_of t_1250 rfl) (lwg_of t_1251 rfl) (lwg_of t_1252 rfl) (lwg_of t_28 rfl) (lwg_of t_1253 rfl)) rfl rfl rfl (by decide +kernel) ⟨Nat.le_of_ble_eq_true rfl, Nat.le_of_ble_eq_true rfl⟩) (Iv.preK hI hk7) rfl rfl hl.1 rfl (lv_room (Nat.le_of_ble_eq_true rfl)) dX10_isWord_10 ⟨Nat.le_of_ble_eq_true rfl, Nat.le_of_ble_eq_true rfl⟩) (fun _ h => h) (fun r_1 hp_2 => ?_)
  rw [hp_2]
  refine lv_icmp_ne (tgt := 20) hx hb dX10_isWord_13 (by decide) (fun c_3 => ?_) (fun c_3 => ?_)
  · -- 13: nI (pt - bg) ne
    have c_3 : pt - bg ≠ sLen k := by have h := mt (nI_eq (a := pt - bg) (b := sLen k) (by omega) (by omega)).mpr c_3; omega
    refine lv_iconst (v := nI 0) hx hb dX10_isWord_20 (by decide) ?_
    refine n_eq (show _ = bI false from rfl) ?_
    refine lv_istore_n (lv' := [(2, .int (bI false)), (0, .ref (ad 60)), (1, .ref (G.2.2.1 k))]) hx hb dX10_isWord_21 rfl hl (by decide) rfl (fun ls hl => ?_)
    refine lv_iconst (v := nI 0) hx hb dX10_isWord_22 (by decide) ?_
    refine lv_istore_n (lv' := [(3, .int (nI 0)), (2, .int (bI false)), (0, .ref (ad 60)), (1, .ref (G.2.2.1 k))]) hx hb dX10_isWord_23 rfl hl (by decide) rfl (fun ls hl => ?_)
    have lp24_4 : ∀ (fuel : Nat) (j : Nat) (b : Bool) (Mx : Mem) (Hx : Heap) (locsx : List Loc) (ls : Array Slot), (sLen k - j) < fuel → (j ≤ sLen k) → (b = decide (pt - bg = sLen k ∧ ∀ i9, i9 < j → tb (bg + i9) = sBy k i9)) → Iv G z ad Mx s Hx locsx → (∀ j : Nat,  Mx j = M j) → lv_has ls 4 [(0, .ref (ad 60)), (1, .ref (G.2.2.1 k)), (2, .int (bI b)), (3, .int (nI j))] → W p l e (headSpec wsX10_isWord rm_c_X10_isWord).room s m ([.ref (ad 60), .ref (G.2.2.1 k)] : List Value).toArray below meth c Hx locsx 0 0 Q (F0 m 24 ls []) := by
      intro fuel
      induction fuel with
      | zero => intro j b Mx Hx locsx ls hfu hj hb9 hI  hF_6 hl; exact absurd hfu (Nat.not_lt_zero _)
      | succ fuel ih_7 =>
        intro j b Mx Hx locsx ls hfu hj hb9 hI  hF_6 hl
        have hm_8 : Mx 60 = some (cModel ad th ln on ao vr sn tp pt zs bg fa) := by rw [hF_6 60 ]; exact h60
        have hm_9 : Mx 80 = some (aB G 400 f) := by rw [hF_6 80 ]; exact h80
        refine lv_iload_n hx hb dX10_isWord_24 rfl (lv_at hl 2 rfl) ?_
        refine lv_if_eq (tgt := 67) hx hb dX10_isWord_25 (by decide) (fun c_10 => ?_) (fun c_10 => ?_)
        · -- 25: bI b eq
          have c_10 : b = false := bI_f (c_10)
          refine lv_iload_n hx hb dX10_isWord_67 rfl (lv_at hl 2 rfl) ?_
          subst hQ
          exact e_Ni hx hb hr (bI_nar _) hlocks hI ⟨(by first | exact congrArg bI (hb9.trans (by rw [isW, show j = sLen k by omega])) | exact congrArg bI ((by assumption : b = false).trans (isW_f ((by assumption : b = false).symm.trans hb9) hj))), (fun j  => hF_6 j )⟩ dX10_isWord_68
        · -- 25: bI b ne
          have c_10 : b = true := bI_t (c_10)
          have hbt := of_decide_eq_true (hb9.symm.trans (by assumption))
          refine lv_iload_n hx hb dX10_isWord_28 rfl (lv_at hl 3 rfl) ?_
          refine lv_aload_n hx hb dX10_isWord_29 rfl (lv_at hl 1 rfl) ?_
          refine k_Ri (va_runV (As := []) (rest := [.int (nI j)]) ⟨hx, hb, hml, hown, hts⟩ (c_J0_length_8abf5 l G z ad Mx (k := k) (by omega)) (cwV 0 hts (gV (lwg_of t_1250 rfl) (lwg_of t_1251 rfl) (lwg_of t_1252 rfl) (lwg_of t_28 rfl) (lwg_of t_1253 rfl)) rfl rfl rfl (by decide +kernel) ⟨Nat.le_of_ble_eq_true rfl, Nat.le_of_ble_eq_true rfl⟩) (Iv.preK hI hk7) rfl rfl hl.1 rfl (lv_room (Nat.le_of_ble_eq_true rfl)) dX10_isWord_30 ⟨Nat.le_of_ble_eq_true rfl, Nat.le_of_ble_eq_true rfl⟩) (fun _ h => h) (fun r_11 hp_12 => ?_)
          rw [hp_12]
          refine lv_icmp_ge (tgt := 67) hx hb dX10_isWord_33 (by decide) (fun c_13 => ?_) (fun c_13 => ?_)
          · -- 33: nI j ge
            have c_13 : sLen k ≤ j := (nI_leI (a := sLen k) (b := j) (by omega) (by omega)).mp (c_13)
            refine lv_iload_n hx hb dX10_isWord_67 rfl (lv_at hl 2 rfl) ?_
            subst hQ
            exact e_Ni hx hb hr (bI_nar _) hlocks hI ⟨(by first | exact congrArg bI (hb9.trans (by rw [isW, show j = sLen k by omega])) | exact congrArg bI ((by assumption : b = false).trans (isW_f ((by assumption : b = false).symm.trans hb9) hj))), (fun j  => hF_6 j )⟩ dX10_isWord_68
          · -- 33: nI j lt
            have c_13 : j < sLen k := by have h := mt (nI_leI (a := sLen k) (b := j) (by omega) (by omega)).mpr c_13; omega
            refine lv_aload_n hx hb dX10_isWord_36 rfl (lv_at hl 0 rfl) ?_
            refine h_get (C := RX10) (T := TX10) (N := 38) hx hb hts i_RX10 hown hI hm_8 rfl 25 (by decide) f_72 rfl rfl dX10_isWord_37 ?_
            refine lv_aload_n hx hb dX10_isWord_40 rfl (lv_at hl 0 rfl) ?_
            refine h_get (C := RX10) (T := TX10) (N := 38) hx hb hts i_RX10 hown hI hm_8 rfl 29 (by decide) f_170 rfl rfl dX10_isWord_41 ?_
            refine lv_iload_n hx hb dX10_isWord_44 rfl (lv_at hl 3 rfl) ?_
            refine lv_iadd hx hb dX10_isWord_45 ?_
            refine n_eq (nI_add bg j) ?_
            refine h_bald (i := bg + j) hx hb hI hm_9 (by omega) (by decide) dX10_isWord_46 ?_
            refine n_eq (show _ = sB (tb (bg + j)) from hf _ (by omega)) ?_
            refine lv_aload_n hx hb dX10_isWord_47 rfl (lv_at hl 1 rfl) ?_
            refine lv_iload_n hx hb dX10_isWord_48 rfl (lv_at hl 3 rfl) ?_
            refine k_Ni (va_runV (As := [.int (nI j)]) (rest := [.int (sB (tb (bg + j)))]) ⟨hx, hb, hml, hown, hts⟩ (c_J0_charAt_5068e l G z ad Mx (k := k) (j := j) (by omega) (by omega)) (cwV 1 hts (gV (lwg_of t_1260 rfl) (lwg_of t_1261 rfl) (lwg_of t_1262 rfl) (lwg_of t_28 rfl) (lwg_of t_1263 rfl)) rfl rfl rfl (by decide +kernel) ⟨Nat.le_of_ble_eq_true rfl, Nat.le_of_ble_eq_true rfl⟩) (Iv.preK hI hk7) rfl rfl hl.1 rfl (lv_room (Nat.le_of_ble_eq_true rfl)) dX10_isWord_49 ⟨Nat.le_of_ble_eq_true rfl, Nat.le_of_ble_eq_true rfl⟩) hI (fun r_14 M_16 H_17 locs_18 hp_15 hI => ?_)
            obtain ⟨hr_19, hF_20⟩ := hp_15
            have hm_21 : M_16 60 = some (cModel ad th ln on ao vr sn tp pt zs bg fa) := by rw [hF_20 60 ]; exact hm_8
            have hm_22 : M_16 80 = some (aB G 400 f) := by rw [hF_20 80 ]; exact hm_9
            have hF_23 : ∀ j : Nat,  M_16 j = M j := fun j  => (hF_20 j).trans (hF_6 j )
            rw [hr_19]
            refine lv_icmp_ne (tgt := 59) hx hb dX10_isWord_52 (by decide) (fun c_24 => ?_) (fun c_24 => ?_)
            · -- 52: sB (tb (bg + j)) ne
              refine lv_iconst (v := nI 0) hx hb dX10_isWord_59 (by decide) ?_
              refine n_eq (show _ = bI false from rfl) ?_
              refine lv_istore_n (lv' := [(2, .int (bI false)), (0, .ref (ad 60)), (1, .ref (G.2.2.1 k)), (3, .int (nI j))]) hx hb dX10_isWord_60 rfl hl (by decide) rfl (fun ls hl => ?_)
              refine lv_iinc (v := nI (j + 1)) (lv' := [(3, .int (nI (j + 1))), (2, .int (bI false)), (0, .ref (ad 60)), (1, .ref (G.2.2.1 k))]) hx hb dX10_isWord_61 hl (k := 3) rfl (nI_add j 1) (by decide) rfl (fun ls hl => ?_)
              refine lv_goto (tgt := 24) hx hb dX10_isWord_64 (by decide) ?_
              exact ih_7 (j + 1) false M_16 H_17 locs_18 ls (by omega) (by omega) (isW_x (fun h9 => absurd ((sB_eq (htb _ (by omega)) (sBy_lt k hk7 j (by omega)).2).mpr h9) (by assumption)) (Nat.lt_succ_self j)) hI  (fun j  => hF_23 j ) (lv_sub hl [2, 3, 1, 0] rfl)
            · -- 52: sB (tb (bg + j)) eq
              refine lv_iconst (v := nI 1) hx hb dX10_isWord_55 (by decide) ?_
              refine n_eq (show _ = bI true from rfl) ?_
              refine lv_goto (tgt := 60) hx hb dX10_isWord_56 (by decide) ?_
              refine lv_istore_n (lv' := [(2, .int (bI true)), (0, .ref (ad 60)), (1, .ref (G.2.2.1 k)), (3, .int (nI j))]) hx hb dX10_isWord_60 rfl hl (by decide) rfl (fun ls hl => ?_)
              refine lv_iinc (v := nI (j + 1)) (lv' := [(3, .int (nI (j + 1))), (2, .int (bI true)), (0, .ref (ad 60)), (1, .ref (G.2.2.1 k))]) hx hb dX10_isWord_61 hl (k := 3) rfl (nI_add j 1) (by decide) rfl (fun ls hl => ?_)
              refine lv_goto (tgt := 24) hx hb dX10_isWord_64 (by decide) ?_
              exact ih_7 (j + 1) true M_16 H_17 locs_18 ls (by omega) (by omega) (isW_y hbt ((sB_eq (htb _ (by omega)) (sBy_lt k hk7 j (by omega)).2).mp (by assumption))) hI  (fun j  => hF_23 j ) (lv_sub hl [2, 3, 1, 0] rfl)
    exact lp24_4 ((sLen k - 0) + 1) 0 false M s.heap [] ls (Nat.lt_succ_self _) (by omega) (isW_n (by omega)) hI  (fun j  => rfl) (lv_sub hl [2, 3, 1, 0] rfl)
  · -- 13: nI (pt - bg) eq
    have c_3 : pt - bg = sLen k := (nI_eq (a := pt - bg) (b := sLen k) (by omega) (by omega)).mp (c_3)
    refine lv_iconst (v := nI 1) hx hb dX10_isWord_16 (by decide) ?_
    refine n_eq (show _ = bI true from rfl) ?_
    refine lv_goto (tgt := 21) hx hb dX10_isWord_17 (by decide) ?_
    refine lv_istore_n (lv' := [(2, .int (bI true)), (0, .ref (ad 60)), (1, .ref (G.2.2.1 k))]) hx hb dX10_isWord_21 rfl hl (by decide) rfl (fun ls hl => ?_)
    refine lv_iconst (v := nI 0) hx hb dX10_isWord_22 (by decide) ?_
    refine lv_istore_n (lv' := [(3, .int (nI 0)), (2, .int (bI true)), (0, .ref (ad 60)), (1, .ref (G.2.2.1 k))]) hx hb dX10_isWord_23 rfl hl (by decide) rfl (fun ls hl => ?_)
    have lp24_25 : ∀ (fuel : Nat) (j : Nat) (b : Bool) (Mx : Mem) (Hx : Heap) (locsx : List Loc) (ls : Array Slot), (sLen k - j) < fuel → (j ≤ sLen k) → (b = decide (pt - bg = sLen k ∧ ∀ i9, i9 < j → tb (bg + i9) = sBy k i9)) → Iv G z ad Mx s Hx locsx → (∀ j : Nat,  Mx j = M j) → lv_has ls 4 [(0, .ref (ad 60)), (1, .ref (G.2.2.1 k)), (2, .int (bI b)), (3, .int (nI j))] → W p l e (headSpec wsX10_isWord rm_c_X10_isWord).room s m ([.ref (ad 60), .ref (G.2.2.1 k)] : List Value).toArray below meth c Hx locsx 0 0 Q (F0 m 24 ls []) := by
      intro fuel
      induction fuel with
      | zero => intro j b Mx Hx locsx ls hfu hj hb9 hI  hF_27 hl; exact absurd hfu (Nat.not_lt_zero _)
      | succ fuel ih_28 =>
        intro j b Mx Hx locsx ls hfu hj hb9 hI  hF_27 hl
        have hm_29 : Mx 60 = some (cModel ad th ln on ao vr sn tp pt zs bg fa) := by rw [hF_27 60 ]; exact h60
        have hm_30 : Mx 80 = some (aB G 400 f) := by rw [hF_27 80 ]; exact h80
        refine lv_iload_n hx hb dX10_isWord_24 rfl (lv_at hl 2 rfl) ?_
        refine lv_if_eq (tgt := 67) hx hb dX10_isWord_25 (by decide) (fun c_31 => ?_) (fun c_31 => ?_)
        · -- 25: bI b eq
          have c_31 : b = false := bI_f (c_31)
          refine lv_iload_n hx hb dX10_isWord_67 rfl (lv_at hl 2 rfl) ?_
          subst hQ
          exact e_Ni hx hb hr (bI_nar _) hlocks hI ⟨(by first | exact congrArg bI (hb9.trans (by rw [isW, show j = sLen k by omega])) | exact congrArg bI ((by assumption : b = false).trans (isW_f ((by assumption : b = false).symm.trans hb9) hj))), (fun j  => hF_27 j )⟩ dX10_isWord_68
        · -- 25: bI b ne
          have c_31 : b = true := bI_t (c_31)
          have hbt := of_decide_eq_true (hb9.symm.trans (by assumption))
          refine lv_iload_n hx hb dX10_isWord_28 rfl (lv_at hl 3 rfl) ?_
          refine lv_aload_n hx hb dX10_isWord_29 rfl (lv_at hl 1 rfl) ?_
          refine k_Ri (va_runV (As := []) (rest := [.int (nI j)]) ⟨hx, hb, hml, hown, hts⟩ (c_J0_length_8abf5 l G z ad Mx (k := k) (by omega)) (cwV 0 hts (gV (lwg_of t_1250 rfl) (lwg_of t_1251 rfl) (lwg_of t_1252 rfl) (lwg_of t_28 rfl) (lwg_of t_1253 rfl)) rfl rfl rfl (by decide +kernel) ⟨Nat.le_of_ble_eq_true rfl, Nat.le_of_ble_eq_true rfl⟩) (Iv.preK hI hk7) rfl rfl hl.1 rfl (lv_room (Nat.le_of_ble_eq_true rfl)) dX10_isWord_30 ⟨Nat.le_of_ble_eq_true rfl, Nat.le_of_ble_eq_true rfl⟩) (fun _ h => h) (fun r_32 hp_33 => ?_)
          rw [hp_33]
          refine lv_icmp_ge (tgt := 67) hx hb dX10_isWord_33 (by decide) (fun c_34 => ?_) (fun c_34 => ?_)
          · -- 33: nI j ge
            have c_34 : sLen k ≤ j := (nI_leI (a := sLen k) (b := j) (by omega) (by omega)).mp (c_34)
            refine lv_iload_n hx hb dX10_isWord_67 rfl (lv_at hl 2 rfl) ?_
            subst hQ
            exact e_Ni hx hb hr (bI_nar _) hlocks hI ⟨(by first | exact congrArg bI (hb9.trans (by rw [isW, show j = sLen k by omega])) | exact congrArg bI ((by assumption : b = false).trans (isW_f ((by assumption : b = false).symm.trans hb9) hj))), (fun j  => hF_27 j )⟩ dX10_isWord_68
          · -- 33: nI j lt
            have c_34 : j < sLen k := by have h := mt (nI_leI (a := sLen k) (b := j) (by omega) (by omega)).mpr c_34; omega
            refine lv_aload_n hx hb dX10_isWord_36 rfl (lv_at hl 0 rfl) ?_
            refine h_get (C := RX10) (T := TX10) (N := 38) hx hb hts i_RX10 hown hI hm_29 rfl 25 (by decide) f_72 rfl rfl dX10_isWord_37 ?_
            refine lv_aload_n hx hb dX10_isWord_40 rfl (lv_at hl 0 rfl) ?_
            refine h_get (C := RX10) (T := TX10) (N := 38) hx hb hts i_RX10 hown hI hm_29 rfl 29 (by decide) f_170 rfl rfl dX10_isWord_41 ?_
            refine lv_iload_n hx hb dX10_isWord_44 rfl (lv_at hl 3 rfl) ?_
            refine lv_iadd hx hb dX10_isWord_45 ?_
            refine n_eq (nI_add bg j) ?_
            refine h_bald (i := bg + j) hx hb hI hm_30 (by omega) (by decide) dX10_isWord_46 ?_
            refine n_eq (show _ = sB (tb (bg + j)) from hf _ (by omega)) ?_
            refine lv_aload_n hx hb dX10_isWord_47 rfl (lv_at hl 1 rfl) ?_
            refine lv_iload_n hx hb dX10_isWord_48 rfl (lv_at hl 3 rfl) ?_
            refine k_Ni (va_runV (As := [.int (nI j)]) (rest := [.int (sB (tb (bg + j)))]) ⟨hx, hb, hml, hown, hts⟩ (c_J0_charAt_5068e l G z ad Mx (k := k) (j := j) (by omega) (by omega)) (cwV 1 hts (gV (lwg_of t_1260 rfl) (lwg_of t_1261 rfl) (lwg_of t_1262 rfl) (lwg_of t_28 rfl) (lwg_of t_1263 rfl)) rfl rfl rfl (by decide +kernel) ⟨Nat.le_of_ble_eq_true rfl, Nat.le_of_ble_eq_true rfl⟩) (Iv.preK hI hk7) rfl rfl hl.1 rfl (lv_room (Nat.le_of_ble_eq_true rfl)) dX10_isWord_49 ⟨Nat.le_of_ble_eq_true rfl, Nat.le_of_ble_eq_true rfl⟩) hI (fun r_35 M_37 H_38 locs_39 hp_36 hI => ?_)
            obtain ⟨hr_40, hF_41⟩ := hp_36
            have hm_42 : M_37 60 = some (cModel ad th ln on ao vr sn tp pt zs bg fa) := by rw [hF_41 60 ]; exact hm_29
            have hm_43 : M_37 80 = some (aB G 400 f) := by rw [hF_41 80 ]; exact hm_30
            have hF_44 : ∀ j : Nat,  M_37 j = M j := fun j  => (hF_41 j).trans (hF_27 j )
            rw [hr_40]
            refine lv_icmp_ne (tgt := 59) hx hb dX10_isWord_52 (by decide) (fun c_45 => ?_) (fun c_45 => ?_)
            · -- 52: sB (tb (bg + j)) ne
              refine lv_iconst (v := nI 0) hx hb dX10_isWord_59 (by decide) ?_
              refine n_eq (show _ = bI false from rfl) ?_
              refine lv_istore_n (lv' := [(2, .int (bI false)), (0, .ref (ad 60)), (1, .ref (G.2.2.1 k)), (3, .int (nI j))]) hx hb dX10_isWord_60 rfl hl (by decide) rfl (fun ls hl => ?_)
              refine lv_iinc (v := nI (j + 1)) (lv' := [(3, .int (nI (j + 1))), (2, .int (bI false)), (0, .ref (ad 60)), (1, .ref (G.2.2.1 k))]) hx hb dX10_isWord_61 hl (k := 3) rfl (nI_add j 1) (by decide) rfl (fun ls hl => ?_)
              refine lv_goto (tgt := 24) hx hb dX10_isWord_64 (by decide) ?_
              exact ih_28 (j + 1) false M_37 H_38 locs_39 ls (by omega) (by omega) (isW_x (fun h9 => absurd ((sB_eq (htb _ (by omega)) (sBy_lt k hk7 j (by omega)).2).mpr h9) (by assumption)) (Nat.lt_succ_self j)) hI  (fun j  => hF_44 j ) (lv_sub hl [2, 3, 1, 0] rfl)
            · -- 52: sB (tb (bg + j)) eq
              refine lv_iconst (v := nI 1) hx hb dX10_isWord_55 (by decide) ?_
              refine n_eq (show _ = bI true from rfl) ?_
              refine lv_goto (tgt := 60) hx hb dX10_isWord_56 (by decide) ?_
              refine lv_istore_n (lv' := [(2, .int (bI true)), (0, .ref (ad 60)), (1, .ref (G.2.2.1 k)), (3, .int (nI j))]) hx hb dX10_isWord_60 rfl hl (by decide) rfl (fun ls hl => ?_)
              refine lv_iinc (v := nI (j + 1)) (lv' := [(3, .int (nI (j + 1))), (2, .int (bI true)), (0, .ref (ad 60)), (1, .ref (G.2.2.1 k))]) hx hb dX10_isWord_61 hl (k := 3) rfl (nI_add j 1) (by decide) rfl (fun ls hl => ?_)
              refine lv_goto (tgt := 24) hx hb dX10_isWord_64 (by decide) ?_
              exact ih_28 (j + 1) true M_37 H_38 locs_39 ls (by omega) (by omega) (isW_y hbt ((sB_eq (htb _ (by omega)) (sBy_lt k hk7 j (by omega)).2).mp (by assumption))) hI  (fun j  => hF_44 j ) (lv_sub hl [2, 3, 1, 0] rfl)
    exact lp24_25 ((sLen k - 0) + 1) 0 true M s.heap [] ls (Nat.lt_succ_self _) (by omega) (isW_0 rfl (by omega)) hI  (fun j  => rfl) (lv_sub hl [2, 3, 1, 0] rfl)
