/-- one of the first m ends of a line is a thing that counts as one of re -/
def tch (re : Nat → Bool) (e lst : Nat → Nat) (m : Nat) : Bool := (List.range m).any (fun j => decide (e j < 40) && re (lst (e j)))
section TC
variable {re : Nat → Bool} {e lst : Nat → Nat} {j : Nat}
theorem tch_s : tch re e lst (j + 1) = (tch re e lst j || (decide (e j < 40) && re (lst (e j)))) := by simp [tch, List.range_succ]
theorem tch_old (h : tch re e lst j = true) : true = tch re e lst (j + 1) := by rw [tch_s, h]; rfl
theorem tch_n1 (h : tch re e lst j = false) (h1 : 40 ≤ e j) : false = tch re e lst (j + 1) := by rw [tch_s, h, decide_eq_false (by omega)]; rfl
theorem tch_n2 (h : tch re e lst j = false) (h1 : re (lst (e j)) = false) : false = tch re e lst (j + 1) := by rw [tch_s, h, h1, Bool.and_false]; rfl
theorem tch_y (h : e j < 40) (h1 : re (lst (e j)) = true) : true = tch re e lst (j + 1) := by rw [tch_s, h1, decide_eq_true h, Bool.and_true, Bool.or_true]
end TC
theorem shr3 : ∀ u, u < 8 → ∀ v, v < 3 → (nI u >>> (nI v &&& 31)) &&& nI 1 = bI (u.testBit v) := by decide +kernel
/-- what a variable may be -/
def opn (vr : Nat) (lst : Nat → Nat) (v t : Nat) : Bool := if vr.testBit v = true then decide (lst t = t) else decide (t = 0)

/-- X10_touches -/
abbrev rm_c_X10_touches : Room := { frames := 0, cells := 0, slots := 0, locals := 0 }
set_option maxHeartbeats 4000000 in
set_option maxRecDepth 100000 in
theorem c_X10_touches (l : Launch) (G : GG) (z : Nat) (ad : Nat → Nat) (M : Mem) {th : Nat} {ln : Nat} {on : Nat} {ao : Nat} {vr : Nat} {sn : Nat} {tp : Nat} {pt : Nat} {zs : Nat} {bg : Nat} {fa : Int32} {n : Nat} {kd : Nat → Nat} {fm : Nat → Int32} {to : Nat → Int32} {sz : Nat → Nat} {rl : Nat → Nat → Nat} {en : Nat → Nat → Nat} {mk : Nat → Nat} {mf : Nat → Int32} {mu : Nat → Int32} {mz : Nat → Nat} {rr : Nat → Nat} {ee : Nat → Nat} {lst : Nat → Nat} {re : Nat → Bool} {q : Nat} (h60 : M 60 = some (cModel ad th ln on ao vr sn tp pt zs bg fa)) (h68 : M 68 = some (aI G 121 (nF mz))) (h70 : M 70 = some (aI G 726 (nF ee))) (h71 : M 71 = some (aI G 40 (nF lst))) (h85 : M 85 = some (aZ G 40 (bF re))) (hw : LSw n kd sz rl en) (hmr : MRel n kd fm to sz rl en mk mf mu mz rr ee) (hq : q < n) (hlst : ∀ u, u < 40 → lst u < 40) : Met l yX10_touches wsX10_touches rm_c_X10_touches (Pr G z ad M [.ref (ad 60), .int (nI q)]) (vp_Si (fun r : Int32 => r = bI (tch re (en q) lst (sz q)))) 0 0 (fun _ => False) := by
  refine Met.ofW (cc := cX10_touches) (maxL := 4) (ret := (some .boolean)) (by decide) rfl ?_
  intro p e s m args below meth c s₁ B hml hv
  obtain ⟨rfl, hv⟩ := hv
  have hI := Iv.entry hv
  have hx := B.exec
  have hb := B.bytes
  have hr := B.returns
  have hts := atoms_spec (ws := wsX10_touches) B.pre
  have hown : s.vm.findClass RX10 = some m.cls := findClass_of_methodNamed B.named
  have hlocks := B.notSynchronized
  have i_RX10 : ∀ w ∈ u_ws RX10 TX10 38, w ∈ wsX10_touches := fun w h => List.mem_cons_of_mem _ (iu_X10 w h)
  have f_36 := hts _ (List.mem_cons_of_mem _ (lwg_of t_1021 rfl))
  have f_42 := hts _ (List.mem_cons_of_mem _ (lwg_of t_1023 rfl))
  have f_92 := hts _ (List.mem_cons_of_mem _ (lwg_of t_1048 rfl))
  have f_45 := hts _ (List.mem_cons_of_mem _ (lwg_of t_1025 rfl))
  have hl := lv_entry ([.ref (ad 60), .int (nI q)]) (n := 4) (Nat.le_of_ble_eq_true rfl)
  rw [lg_entry_eq]
  generalize (lg_sl ([.ref (ad 60), .int (nI q)]) ++ List.replicate (4 - (lg_sl ([.ref (ad 60), .int (nI q)])).length) Slot.unset).toArray = ls at hl ⊢
  have hl : lv_has ls 4 [(0, .ref (ad 60)), (1, .int (nI q))] := hl
  refine w_q (fun Q hQ => ?_)
  have hw1 := hw.1
  obtain ⟨hk6, hs6, hje⟩ := hw.2 q hq
  obtain ⟨hmk, hmf, hmt, hmz, hmj⟩ := hmr q hq
  refine lv_iconst (v := nI 0) hx hb dX10_touches_0 (by decide) ?_
  refine n_eq (show _ = bI false from rfl) ?_
  refine lv_istore_n (lv' := [(2, .int (bI false)), (0, .ref (ad 60)), (1, .int (nI q))]) hx hb dX10_touches_1 rfl hl (by decide) rfl (fun ls hl => ?_)
  refine lv_bipush (v := nI 6) hx hb dX10_touches_2 (by decide) ?_
  refine lv_iload_n hx hb dX10_touches_4 rfl (lv_at hl 2 rfl) ?_
  refine lv_imul hx hb dX10_touches_5 ?_
  refine n_eq (pk_mul 6 q) ?_
  refine lv_istore_n (lv' := [(3, .int (nI (6 * q))), (2, .int (bI false)), (0, .ref (ad 60)), (1, .int (nI q))]) hx hb dX10_touches_6 rfl hl (by decide) rfl (fun ls hl => ?_)
  have lp7_1 : ∀ (fuel : Nat) (j : Nat) (b : Bool) (ls : Array Slot), (sz q - j) < fuel → (j ≤ sz q) → (b = tch re (en q) lst j) → lv_has ls 4 [(0, .ref (ad 60)), (1, .int (nI q)), (2, .int (bI b)), (3, .int (nI (6 * q + j)))] → W p l e (headSpec wsX10_touches rm_c_X10_touches).room s m ([.ref (ad 60), .int (nI q)] : List Value).toArray below meth c s.heap [] 0 0 Q (F0 m 7 ls []) := by
    intro fuel
    induction fuel with
    | zero => intro j b ls hfu hj hb9 hl; exact absurd hfu (Nat.not_lt_zero _)
    | succ fuel ih_2 =>
      intro j b ls hfu hj hb9 hl
      refine lv_iload_n hx hb dX10_touches_7 rfl (lv_at hl 3 rfl) ?_
      refine lv_bipush (v := nI 6) hx hb dX10_touches_8 (by decide) ?_
      refine lv_iload_n hx hb dX10_touches_10 rfl (lv_at hl 1 rfl) ?_
      refine lv_imul hx hb dX10_touches_11 ?_
      refine n_eq (pk_mul 6 q) ?_
      refine lv_aload_n hx hb dX10_touches_12 rfl (lv_at hl 0 rfl) ?_
      refine h_get (C := RX10) (T := TX10) (N := 38) hx hb hts i_RX10 hown hI h60 rfl 8 (by decide) f_36 rfl rfl dX10_touches_13 ?_
      refine lv_iload_n hx hb dX10_touches_16 rfl (lv_at hl 1 rfl) ?_
      refine h_iald (i := q) hx hb hI h68 (by omega) (by decide) dX10_touches_17 ?_
      refine n_eq (show _ = nI (sz q) from congrArg nI hmz) ?_
      refine lv_iadd hx hb dX10_touches_18 ?_
      refine n_eq (nI_add (6 * q) (sz q)) ?_
      refine lv_icmp_ge (tgt := 68) hx hb dX10_touches_19 (by decide) (fun c_3 => ?_) (fun c_3 => ?_)
      · -- 19: nI (6 * q + j) ge
        have c_3 : (6 * q) + (sz q) ≤ 6 * q + j := (nI_leI (a := (6 * q) + (sz q)) (b := 6 * q + j) (by omega) (by omega)).mp (c_3)
        refine lv_iload_n hx hb dX10_touches_68 rfl (lv_at hl 2 rfl) ?_
        subst hQ
        exact e_Ri hx hb hr (bI_nar _) hlocks (by rw [hb9, show j = sz q by omega]) dX10_touches_69
      · -- 19: nI (6 * q + j) lt
        have c_3 : 6 * q + j < (6 * q) + (sz q) := by have h := mt (nI_leI (a := (6 * q) + (sz q)) (b := 6 * q + j) (by omega) (by omega)).mpr c_3; omega
        obtain ⟨hrj, hej⟩ := hmj j (by omega)
        obtain ⟨hr6, he4⟩ := hje j (by omega)
        refine lv_iload_n hx hb dX10_touches_22 rfl (lv_at hl 2 rfl) ?_
        refine lv_if_ne (tgt := 56) hx hb dX10_touches_23 (by decide) (fun c_4 => ?_) (fun c_4 => ?_)
        · -- 23: bI b ne
          have c_4 : b = true := bI_t (c_4)
          refine lv_iconst (v := nI 1) hx hb dX10_touches_56 (by decide) ?_
          refine n_eq (show _ = bI true from rfl) ?_
          refine lv_goto (tgt := 61) hx hb dX10_touches_57 (by decide) ?_
          refine lv_istore_n (lv' := [(2, .int (bI true)), (0, .ref (ad 60)), (1, .int (nI q)), (3, .int (nI (6 * q + j)))]) hx hb dX10_touches_61 rfl hl (by decide) rfl (fun ls hl => ?_)
          refine lv_iinc (v := nI (6 * q + j + 1)) (lv' := [(3, .int (nI (6 * q + j + 1))), (2, .int (bI true)), (0, .ref (ad 60)), (1, .int (nI q))]) hx hb dX10_touches_62 hl (k := 3) rfl (nI_add (6 * q + j) 1) (by decide) rfl (fun ls hl => ?_)
          refine lv_goto (tgt := 7) hx hb dX10_touches_65 (by decide) ?_
          exact ih_2 (j + 1) true ls (by omega) (by omega) (tch_old (by rw [← hb9]; assumption)) (lv_sub hl [2, 3, 1, 0] rfl)
        · -- 23: bI b eq
          have c_4 : b = false := bI_f (c_4)
          refine lv_aload_n hx hb dX10_touches_26 rfl (lv_at hl 0 rfl) ?_
          refine h_get (C := RX10) (T := TX10) (N := 38) hx hb hts i_RX10 hown hI h60 rfl 10 (by decide) f_42 rfl rfl dX10_touches_27 ?_
          refine lv_iload_n hx hb dX10_touches_30 rfl (lv_at hl 3 rfl) ?_
          refine h_iald (i := 6 * q + j) hx hb hI h70 (by omega) (by decide) dX10_touches_31 ?_
          refine n_eq (show _ = nI (en q j) from congrArg nI hej) ?_
          refine lv_bipush (v := nI 40) hx hb dX10_touches_32 (by decide) ?_
          refine lv_icmp_ge (tgt := 60) hx hb dX10_touches_34 (by decide) (fun c_5 => ?_) (fun c_5 => ?_)
          · -- 34: nI (en q j) ge
            have c_5 : 40 ≤ en q j := (nI_leI (a := 40) (b := en q j) (by omega) (by omega)).mp (c_5)
            refine lv_iconst (v := nI 0) hx hb dX10_touches_60 (by decide) ?_
            refine n_eq (show _ = bI false from rfl) ?_
            refine lv_istore_n (lv' := [(2, .int (bI false)), (0, .ref (ad 60)), (1, .int (nI q)), (3, .int (nI (6 * q + j)))]) hx hb dX10_touches_61 rfl hl (by decide) rfl (fun ls hl => ?_)
            refine lv_iinc (v := nI (6 * q + j + 1)) (lv' := [(3, .int (nI (6 * q + j + 1))), (2, .int (bI false)), (0, .ref (ad 60)), (1, .int (nI q))]) hx hb dX10_touches_62 hl (k := 3) rfl (nI_add (6 * q + j) 1) (by decide) rfl (fun ls hl => ?_)
            refine lv_goto (tgt := 7) hx hb dX10_touches_65 (by decide) ?_
            exact ih_2 (j + 1) false ls (by omega) (by omega) (tch_n1 (by rw [← hb9]; assumption) (by assumption)) (lv_sub hl [2, 3, 1, 0] rfl)
          · -- 34: nI (en q j) lt
            have c_5 : en q j < 40 := by have h := mt (nI_leI (a := 40) (b := en q j) (by omega) (by omega)).mpr c_5; omega
            have hle := hlst (en q j) (by omega)
            refine lv_aload_n hx hb dX10_touches_37 rfl (lv_at hl 0 rfl) ?_
            refine h_get (C := RX10) (T := TX10) (N := 38) hx hb hts i_RX10 hown hI h60 rfl 35 (by decide) f_92 rfl rfl dX10_touches_38 ?_
            refine lv_aload_n hx hb dX10_touches_41 rfl (lv_at hl 0 rfl) ?_
            refine h_get (C := RX10) (T := TX10) (N := 38) hx hb hts i_RX10 hown hI h60 rfl 12 (by decide) f_45 rfl rfl dX10_touches_42 ?_
            refine lv_aload_n hx hb dX10_touches_45 rfl (lv_at hl 0 rfl) ?_
            refine h_get (C := RX10) (T := TX10) (N := 38) hx hb hts i_RX10 hown hI h60 rfl 10 (by decide) f_42 rfl rfl dX10_touches_46 ?_
            refine lv_iload_n hx hb dX10_touches_49 rfl (lv_at hl 3 rfl) ?_
            refine h_iald (i := 6 * q + j) hx hb hI h70 (by omega) (by decide) dX10_touches_50 ?_
            refine n_eq (show _ = nI (en q j) from congrArg nI hej) ?_
            refine h_iald (i := en q j) hx hb hI h71 (by omega) (by decide) dX10_touches_51 ?_
            refine h_zald (i := lst (en q j)) hx hb hI h85 (by omega) (by decide) dX10_touches_52 ?_
            refine lv_if_eq (tgt := 60) hx hb dX10_touches_53 (by decide) (fun c_6 => ?_) (fun c_6 => ?_)
            · -- 53: bI (re (lst (en q j))) eq
              have c_6 : re (lst (en q j)) = false := bI_f (c_6)
              refine lv_iconst (v := nI 0) hx hb dX10_touches_60 (by decide) ?_
              refine n_eq (show _ = bI false from rfl) ?_
              refine lv_istore_n (lv' := [(2, .int (bI false)), (0, .ref (ad 60)), (1, .int (nI q)), (3, .int (nI (6 * q + j)))]) hx hb dX10_touches_61 rfl hl (by decide) rfl (fun ls hl => ?_)
              refine lv_iinc (v := nI (6 * q + j + 1)) (lv' := [(3, .int (nI (6 * q + j + 1))), (2, .int (bI false)), (0, .ref (ad 60)), (1, .int (nI q))]) hx hb dX10_touches_62 hl (k := 3) rfl (nI_add (6 * q + j) 1) (by decide) rfl (fun ls hl => ?_)
              refine lv_goto (tgt := 7) hx hb dX10_touches_65 (by decide) ?_
              exact ih_2 (j + 1) false ls (by omega) (by omega) (tch_n2 (by rw [← hb9]; assumption) (by assumption)) (lv_sub hl [2, 3, 1, 0] rfl)
            · -- 53: bI (re (lst (en q j))) ne
              have c_6 : re (lst (en q j)) = true := bI_t (c_6)
              refine lv_iconst (v := nI 1) hx hb dX10_touches_56 (by decide) ?_
              refine n_eq (show _ = bI true from rfl) ?_
              refine lv_goto (tgt := 61) hx hb dX10_touches_57 (by decide) ?_
              refine lv_istore_n (lv' := [(2, .int (bI true)), (0, .ref (ad 60)), (1, .int (nI q)), (3, .int (nI (6 * q + j)))]) hx hb dX10_touches_61 rfl hl (by decide) rfl (fun ls hl => ?_)
              refine lv_iinc (v := nI (6 * q + j + 1)) (lv' := [(3, .int (nI (6 * q + j + 1))), (2, .int (bI true)), (0, .ref (ad 60)), (1, .int (nI q))]) hx hb dX10_touches_62 hl (k := 3) rfl (nI_add (6 * q + j) 1) (by decide) rfl (fun ls hl => ?_)
              refine lv_goto (tgt := 7) hx hb dX10_touches_65 (by decide) ?_
              exact ih_2 (j + 1) true ls (by omega) (by omega) (tch_y (by assumption) (by assumption)) (lv_sub hl [2, 3, 1, 0] rfl)
  exact lp7_1 ((sz q - 0) + 1) 0 false ls (Nat.lt_succ_self _) (by omega) (rfl) (lv_sub hl [2, 3, 1, 0] rfl)

/-- X10_placeOf -/
abbrev rm_c_X10_placeOf : Room := { frames := 0, cells := 0, slots := 0, locals := 0 }
set_option maxHeartbeats 4000000 in
set_option maxRecDepth 100000 in
theorem c_X10_placeOf (l : Launch) (G : GG) (z : Nat) (ad : Nat → Nat) (M : Mem) {i : Nat} {a : Nat} {b : Nat} {c0 : Nat}   : Met l yX10_placeOf wsX10_placeOf rm_c_X10_placeOf (Pr G z ad M [.int (nI i), .int (nI a), .int (nI b), .int (nI c0)]) (vp_Si (fun r : Int32 => r = nI (((i * 40 + a) * 40 + b) * 40 + c0))) 0 0 (fun _ => False) := by
  refine Met.ofW (cc := cX10_placeOf) (maxL := 4) (ret := (some .int)) (by decide) rfl ?_
  intro p e s m args below meth c s₁ B hml hv
  obtain ⟨rfl, hv⟩ := hv
  have hI := Iv.entry hv
  have hx := B.exec
  have hb := B.bytes
  have hr := B.returns
  have hts := atoms_spec (ws := wsX10_placeOf) B.pre
  have hown : s.vm.findClass RX10 = some m.cls := findClass_of_methodNamed B.named
  have hlocks := B.notSynchronized
  have hl := lv_entry ([.int (nI i), .int (nI a), .int (nI b), .int (nI c0)]) (n := 4) (Nat.le_of_ble_eq_true rfl)
  rw [lg_entry_eq]
  generalize (lg_sl ([.int (nI i), .int (nI a), .int (nI b), .int (nI c0)]) ++ List.replicate (4 - (lg_sl ([.int (nI i), .int (nI a), .int (nI b), .int (nI c0)])).length) Slot.unset).toArray = ls at hl ⊢
  have hl : lv_has ls 4 [(0, .int (nI i)), (1, .int (nI a)), (2, .int (nI b)), (3, .int (nI c0))] := hl
  refine lv_iload_n hx hb dX10_placeOf_0 rfl (lv_at hl 0 rfl) ?_
  refine lv_bipush (v := nI 40) hx hb dX10_placeOf_1 (by decide) ?_
  refine lv_imul hx hb dX10_placeOf_3 ?_
  refine n_eq (pk_mul i 40) ?_
  refine lv_iload_n hx hb dX10_placeOf_4 rfl (lv_at hl 1 rfl) ?_
  refine lv_iadd hx hb dX10_placeOf_5 ?_
  refine n_eq (nI_add (i * 40) a) ?_
  refine lv_bipush (v := nI 40) hx hb dX10_placeOf_6 (by decide) ?_
  refine lv_imul hx hb dX10_placeOf_8 ?_
  refine n_eq (pk_mul ((i * 40) + a) 40) ?_
  refine lv_iload_n hx hb dX10_placeOf_9 rfl (lv_at hl 2 rfl) ?_
  refine lv_iadd hx hb dX10_placeOf_10 ?_
  refine n_eq (nI_add (((i * 40) + a) * 40) b) ?_
  refine lv_bipush (v := nI 40) hx hb dX10_placeOf_11 (by decide) ?_
  refine lv_imul hx hb dX10_placeOf_13 ?_
  refine n_eq (pk_mul ((((i * 40) + a) * 40) + b) 40) ?_
  refine lv_iload_n hx hb dX10_placeOf_14 rfl (lv_at hl 3 rfl) ?_
  refine lv_iadd hx hb dX10_placeOf_15 ?_
  refine n_eq (nI_add (((((i * 40) + a) * 40) + b) * 40) c0) ?_
  exact e_Ri hx hb hr rfl hlocks (rfl) dX10_placeOf_16

/-- X10_isOpen -/
abbrev rm_c_X10_isOpen : Room := { frames := 0, cells := 0, slots := 0, locals := 0 }
set_option maxHeartbeats 4000000 in
set_option maxRecDepth 100000 in
theorem c_X10_isOpen (l : Launch) (G : GG) (z : Nat) (ad : Nat → Nat) (M : Mem) {th : Nat} {ln : Nat} {on : Nat} {ao : Nat} {vr : Nat} {sn : Nat} {tp : Nat} {pt : Nat} {zs : Nat} {bg : Nat} {fa : Int32} {lst : Nat → Nat} {v : Nat} {t : Nat} (h60 : M 60 = some (cModel ad th ln on ao vr sn tp pt zs bg fa)) (h71 : M 71 = some (aI G 40 (nF lst))) (hvr : vr < 8) (hv3 : v < 3) (ht : t < 40) (hlst : ∀ u, u < 40 → lst u < 40) : Met l yX10_isOpen wsX10_isOpen rm_c_X10_isOpen (Pr G z ad M [.ref (ad 60), .int (nI v), .int (nI t)]) (vp_Si (fun r : Int32 => r = bI (opn vr lst v t))) 0 0 (fun _ => False) := by
  refine Met.ofW (cc := cX10_isOpen) (maxL := 3) (ret := (some .boolean)) (by decide) rfl ?_
  intro p e s m args below meth c s₁ B hml hv
  obtain ⟨rfl, hv⟩ := hv
  have hI := Iv.entry hv
  have hx := B.exec
  have hb := B.bytes
  have hr := B.returns
  have hts := atoms_spec (ws := wsX10_isOpen) B.pre
  have hown : s.vm.findClass RX10 = some m.cls := findClass_of_methodNamed B.named
  have hlocks := B.notSynchronized
  have i_RX10 : ∀ w ∈ u_ws RX10 TX10 38, w ∈ wsX10_isOpen := fun w h => List.mem_cons_of_mem _ (iu_X10 w h)
  have f_229 := hts _ (List.mem_cons_of_mem _ (lwg_of t_1036 rfl))
  have f_45 := hts _ (List.mem_cons_of_mem _ (lwg_of t_1025 rfl))
  have hl := lv_entry ([.ref (ad 60), .int (nI v), .int (nI t)]) (n := 3) (Nat.le_of_ble_eq_true rfl)
  rw [lg_entry_eq]
  generalize (lg_sl ([.ref (ad 60), .int (nI v), .int (nI t)]) ++ List.replicate (3 - (lg_sl ([.ref (ad 60), .int (nI v), .int (nI t)])).length) Slot.unset).toArray = ls at hl ⊢
  have hl : lv_has ls 3 [(0, .ref (ad 60)), (1, .int (nI v)), (2, .int (nI t))] := hl
  have hlt := hlst t ht
  refine lv_aload_n hx hb dX10_isOpen_0 rfl (lv_at hl 0 rfl) ?_
  refine h_get (C := RX10) (T := TX10) (N := 38) hx hb hts i_RX10 hown hI h60 rfl 23 (by decide) f_229 rfl rfl dX10_isOpen_1 ?_
  refine lv_iload_n hx hb dX10_isOpen_4 rfl (lv_at hl 1 rfl) ?_
  refine lv_ishr hx hb dX10_isOpen_5 ?_
  refine lv_iconst (v := nI 1) hx hb dX10_isOpen_6 (by decide) ?_
  refine lv_iand hx hb dX10_isOpen_7 ?_
  refine n_eq (show _ = bI (vr.testBit v) from shr3 vr hvr v hv3) ?_
  refine lv_iconst (v := nI 1) hx hb dX10_isOpen_8 (by decide) ?_
  refine n_eq (show _ = bI true from rfl) ?_
  refine lv_icmp_ne (tgt := 30) hx hb dX10_isOpen_9 (by decide) (fun c_1 => ?_) (fun c_1 => ?_)
  · -- 9: bI (vr.testBit v) ne
    have c_1 : vr.testBit v ≠ true := (fun h => c_1 (congrArg bI h))
    refine lv_iload_n hx hb dX10_isOpen_30 rfl (lv_at hl 2 rfl) ?_
    refine lv_if_ne (tgt := 38) hx hb dX10_isOpen_31 (by decide) (fun c_2 => ?_) (fun c_2 => ?_)
    · -- 31: nI t ne
      have c_2 : t ≠ 0 := by have h := mt (nI_eq (a := t) (b := 0) (by omega) (by omega)).mpr c_2; omega
      refine lv_iconst (v := nI 0) hx hb dX10_isOpen_38 (by decide) ?_
      exact e_Ri hx hb hr rfl hlocks (by rw [opn]; first | (rw [if_pos (by assumption)]; first | exact dec_t (by assumption) | exact dec_f (by assumption)) | (rw [if_neg (by assumption)]; first | exact dec_t (by assumption) | exact dec_f (by assumption))) dX10_isOpen_39
    · -- 31: nI t eq
      have c_2 : t = 0 := (nI_eq (a := t) (b := 0) (by omega) (by omega)).mp (c_2)
      refine lv_iconst (v := nI 1) hx hb dX10_isOpen_34 (by decide) ?_
      refine lv_goto (tgt := 39) hx hb dX10_isOpen_35 (by decide) ?_
      exact e_Ri hx hb hr rfl hlocks (by rw [opn]; first | (rw [if_pos (by assumption)]; first | exact dec_t (by assumption) | exact dec_f (by assumption)) | (rw [if_neg (by assumption)]; first | exact dec_t (by assumption) | exact dec_f (by assumption))) dX10_isOpen_39
  · -- 9: bI (vr.testBit v) eq
    have c_1 : vr.testBit v = true := bI_inj c_1
    refine lv_aload_n hx hb dX10_isOpen_12 rfl (lv_at hl 0 rfl) ?_
    refine h_get (C := RX10) (T := TX10) (N := 38) hx hb hts i_RX10 hown hI h60 rfl 12 (by decide) f_45 rfl rfl dX10_isOpen_13 ?_
    refine lv_iload_n hx hb dX10_isOpen_16 rfl (lv_at hl 2 rfl) ?_
    refine h_iald (i := t) hx hb hI h71 (by omega) (by decide) dX10_isOpen_17 ?_
    refine lv_iload_n hx hb dX10_isOpen_18 rfl (lv_at hl 2 rfl) ?_
    refine lv_icmp_ne (tgt := 26) hx hb dX10_isOpen_19 (by decide) (fun c_3 => ?_) (fun c_3 => ?_)
    · -- 19: nI (lst t) ne
      have c_3 : lst t ≠ t := by have h := mt (nI_eq (a := lst t) (b := t) (by omega) (by omega)).mpr c_3; omega
      refine lv_iconst (v := nI 0) hx hb dX10_isOpen_26 (by decide) ?_
      refine lv_goto (tgt := 39) hx hb dX10_isOpen_27 (by decide) ?_
      exact e_Ri hx hb hr rfl hlocks (by rw [opn]; first | (rw [if_pos (by assumption)]; first | exact dec_t (by assumption) | exact dec_f (by assumption)) | (rw [if_neg (by assumption)]; first | exact dec_t (by assumption) | exact dec_f (by assumption))) dX10_isOpen_39
    · -- 19: nI (lst t) eq
      have c_3 : lst t = t := (nI_eq (a := lst t) (b := t) (by omega) (by omega)).mp (c_3)
      refine lv_iconst (v := nI 1) hx hb dX10_isOpen_22 (by decide) ?_
      refine lv_goto (tgt := 39) hx hb dX10_isOpen_23 (by decide) ?_
      exact e_Ri hx hb hr rfl hlocks (by rw [opn]; first | (rw [if_pos (by assumption)]; first | exact dec_t (by assumption) | exact dec_f (by assumption)) | (rw [if_neg (by assumption)]; first | exact dec_t (by assumption) | exact dec_f (by assumption))) dX10_isOpen_39
