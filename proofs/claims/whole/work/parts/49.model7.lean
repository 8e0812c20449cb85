/-- a term as the model holds it: a thing's number, or -1, -2, -3 for the variables -/
def tmI (t : Nat) : Int32 := if t < 40 then nI t else -1 - nI (t - 40)
def ub (te : Nat → Nat) (i : Nat) : Nat → Nat
  | 0 => 0
  | m + 1 => ub te i m ||| vb (te (i * 4 + m))
theorem tm_t : ∀ t, t < 43 → ((0 : Int32) ≤ tmI t ↔ t < 40) := by decide +kernel
theorem tm_v : ∀ t, t < 43 → 40 ≤ t → (-1 : Int32) - tmI t = nI (t - 40) := by decide +kernel

/-- X10_usedBy -/
abbrev rm_c_X10_usedBy : Room := { frames := 0, cells := 0, slots := 0, locals := 0 }
set_option maxHeartbeats 4000000 in
set_option maxRecDepth 100000 in
theorem c_X10_usedBy (l : Launch) (G : GG) (z : Nat) (ad : Nat → Nat) (M : Mem) {th : Nat} {ln : Nat} {on : Nat} {ao : Nat} {vr : Nat} {sn : Nat} {tp : Nat} {pt : Nat} {zs : Nat} {bg : Nat} {fa : Int32} {ap : Nat → Nat} {pf : Nat → Int32} {te : Nat → Nat} {i : Nat} (h60 : M 60 = some (cModel ad th ln on ao vr sn tp pt zs bg fa)) (h77 : M 77 = some (aI G 12 (nF ap))) (h79 : M 79 = some (aI G 48 pf)) (hi6 : i < 6) (hap : ap i ≤ 4) (hpf : ∀ p9, p9 < ap i → te (i * 4 + p9) < 43 ∧ pf (4 * i + p9) = tmI (te (i * 4 + p9))) : Met l yX10_usedBy wsX10_usedBy rm_c_X10_usedBy (Pr G z ad M [.ref (ad 60), .int (nI i)]) (vp_Si (fun r : Int32 => r = nI (ub te i (ap i)))) 0 0 (fun _ => False) := by
  refine Met.ofW (cc := cX10_usedBy) (maxL := 4) (ret := (some .int)) (by decide) rfl ?_
  intro p e s m args below meth c s₁ B hml hv
  obtain ⟨rfl, hv⟩ := hv
  have hI := Iv.entry hv
  have hx := B.exec
  have hb := B.bytes
  have hr := B.returns
  have hts := atoms_spec (ws := wsX10_usedBy) B.pre
  have hown : s.vm.findClass RX10 = some m.cls := findClass_of_methodNamed B.named
  have hlocks := B.notSynchronized
  have i_RX10 : ∀ w ∈ u_ws RX10 TX10 38, w ∈ wsX10_usedBy := fun w h => List.mem_cons_of_mem _ (iu_X10 w h)
  have f_63 := hts _ (List.mem_cons_of_mem _ (lwg_of t_1032 rfl))
  have f_69 := hts _ (List.mem_cons_of_mem _ (lwg_of t_1034 rfl))
  have hl := lv_entry ([.ref (ad 60), .int (nI i)]) (n := 4) (Nat.le_of_ble_eq_true rfl)
  rw [lg_entry_eq]
  generalize (lg_sl ([.ref (ad 60), .int (nI i)]) ++ List.replicate (4 - (lg_sl ([.ref (ad 60), .int (nI i)])).length) Slot.unset).toArray = ls at hl ⊢
  have hl : lv_has ls 4 [(0, .ref (ad 60)), (1, .int (nI i))] := hl
  refine w_q (fun Q hQ => ?_)
  refine lv_iconst (v := nI 0) hx hb dX10_usedBy_0 (by decide) ?_
  refine lv_istore_n (lv' := [(2, .int (nI 0)), (0, .ref (ad 60)), (1, .int (nI i))]) hx hb dX10_usedBy_1 rfl hl (by decide) rfl (fun ls hl => ?_)
  refine lv_iconst (v := nI 4) hx hb dX10_usedBy_2 (by decide) ?_
  refine lv_iload_n hx hb dX10_usedBy_3 rfl (lv_at hl 2 rfl) ?_
  refine lv_imul hx hb dX10_usedBy_4 ?_
  refine n_eq (pk_mul 4 i) ?_
  refine lv_istore_n (lv' := [(3, .int (nI (4 * i))), (2, .int (nI 0)), (0, .ref (ad 60)), (1, .int (nI i))]) hx hb dX10_usedBy_5 rfl hl (by decide) rfl (fun ls hl => ?_)
  have lp6_1 : ∀ (fuel : Nat) (p9 : Nat) (u : Nat) (ls : Array Slot), (ap i - p9) < fuel → (p9 ≤ ap i) → (u = ub te i p9) → lv_has ls 4 [(0, .ref (ad 60)), (1, .int (nI i)), (2, .int (nI u)), (3, .int (nI (4 * i + p9)))] → W p l e (headSpec wsX10_usedBy rm_c_X10_usedBy).room s m ([.ref (ad 60), .int (nI i)] : List Value).toArray below meth c s.heap [] 0 0 Q (F0 m 6 ls []) := by
    intro fuel
    induction fuel with
    | zero => intro p9 u ls hfu hp hu hl; exact absurd hfu (Nat.not_lt_zero _)
    | succ fuel ih_2 =>
      intro p9 u ls hfu hp hu hl
      refine lv_iload_n hx hb dX10_usedBy_6 rfl (lv_at hl 3 rfl) ?_
      refine lv_iconst (v := nI 4) hx hb dX10_usedBy_7 (by decide) ?_
      refine lv_iload_n hx hb dX10_usedBy_8 rfl (lv_at hl 1 rfl) ?_
      refine lv_imul hx hb dX10_usedBy_9 ?_
      refine n_eq (pk_mul 4 i) ?_
      refine lv_aload_n hx hb dX10_usedBy_10 rfl (lv_at hl 0 rfl) ?_
      refine h_get (C := RX10) (T := TX10) (N := 38) hx hb hts i_RX10 hown hI h60 rfl 19 (by decide) f_63 rfl rfl dX10_usedBy_11 ?_
      refine lv_iload_n hx hb dX10_usedBy_14 rfl (lv_at hl 1 rfl) ?_
      refine h_iald (i := i) hx hb hI h77 (by omega) (by decide) dX10_usedBy_15 ?_
      refine lv_iadd hx hb dX10_usedBy_16 ?_
      refine n_eq (nI_add (4 * i) (ap i)) ?_
      refine lv_icmp_ge (tgt := 52) hx hb dX10_usedBy_17 (by decide) (fun c_3 => ?_) (fun c_3 => ?_)
      · -- 17: nI (4 * i + p9) ge
        have c_3 : (4 * i) + (ap i) ≤ 4 * i + p9 := (nI_leI (a := (4 * i) + (ap i)) (b := 4 * i + p9) (by omega) (by omega)).mp (c_3)
        refine lv_iload_n hx hb dX10_usedBy_52 rfl (lv_at hl 2 rfl) ?_
        subst hQ
        exact e_Ri hx hb hr rfl hlocks (by rw [hu, show p9 = ap i by omega]) dX10_usedBy_53
      · -- 17: nI (4 * i + p9) lt
        have c_3 : 4 * i + p9 < (4 * i) + (ap i) := by have h := mt (nI_leI (a := (4 * i) + (ap i)) (b := 4 * i + p9) (by omega) (by omega)).mpr c_3; omega
        obtain ⟨h43, hpv⟩ := hpf p9 (by omega)
        refine lv_iload_n hx hb dX10_usedBy_20 rfl (lv_at hl 2 rfl) ?_
        refine lv_aload_n hx hb dX10_usedBy_21 rfl (lv_at hl 0 rfl) ?_
        refine h_get (C := RX10) (T := TX10) (N := 38) hx hb hts i_RX10 hown hI h60 rfl 21 (by decide) f_69 rfl rfl dX10_usedBy_22 ?_
        refine lv_iload_n hx hb dX10_usedBy_25 rfl (lv_at hl 3 rfl) ?_
        refine h_iald (i := 4 * i + p9) hx hb hI h79 (by omega) (by decide) dX10_usedBy_26 ?_
        refine n_eq (show _ = tmI (te (i * 4 + p9)) from hpv) ?_
        refine lv_if_ge (tgt := 43) hx hb dX10_usedBy_27 (by decide) (fun c_4 => ?_) (fun c_4 => ?_)
        · -- 27: tmI (te (i * 4 + p9)) ge
          have h40 : te (i * 4 + p9) < 40 := (tm_t _ h43).mp (by assumption)
          refine lv_iconst (v := nI 0) hx hb dX10_usedBy_43 (by decide) ?_
          refine lv_ior hx hb dX10_usedBy_44 ?_
          refine n_eq (show _ = nI (u ||| 0) from nI_or _ _) ?_
          refine lv_istore_n (lv' := [(2, .int (nI (u ||| 0))), (0, .ref (ad 60)), (1, .int (nI i)), (3, .int (nI (4 * i + p9)))]) hx hb dX10_usedBy_45 rfl hl (by decide) rfl (fun ls hl => ?_)
          refine lv_iinc (v := nI (4 * i + p9 + 1)) (lv' := [(3, .int (nI (4 * i + p9 + 1))), (2, .int (nI (u ||| 0))), (0, .ref (ad 60)), (1, .int (nI i))]) hx hb dX10_usedBy_46 hl (k := 3) rfl (nI_add (4 * i + p9) 1) (by decide) rfl (fun ls hl => ?_)
          refine lv_goto (tgt := 6) hx hb dX10_usedBy_49 (by decide) ?_
          exact ih_2 (p9 + 1) (u ||| 0) ls (by omega) (by omega) (by rw [ub, hu, vb, if_pos h40]) (lv_sub hl [2, 3, 1, 0] rfl)
        · -- 27: tmI (te (i * 4 + p9)) lt
          have h40 : ¬ te (i * 4 + p9) < 40 := fun h => (by assumption : ¬ (0 : Int32) ≤ tmI (te (i * 4 + p9))) ((tm_t _ h43).mpr h)
          refine lv_iconst (v := nI 1) hx hb dX10_usedBy_30 (by decide) ?_
          refine lv_iconst (v := (-1)) hx hb dX10_usedBy_31 (by decide) ?_
          refine lv_aload_n hx hb dX10_usedBy_32 rfl (lv_at hl 0 rfl) ?_
          refine h_get (C := RX10) (T := TX10) (N := 38) hx hb hts i_RX10 hown hI h60 rfl 21 (by decide) f_69 rfl rfl dX10_usedBy_33 ?_
          refine lv_iload_n hx hb dX10_usedBy_36 rfl (lv_at hl 3 rfl) ?_
          refine h_iald (i := 4 * i + p9) hx hb hI h79 (by omega) (by decide) dX10_usedBy_37 ?_
          refine n_eq (show _ = tmI (te (i * 4 + p9)) from hpv) ?_
          refine lv_isub hx hb dX10_usedBy_38 ?_
          refine n_eq (show _ = nI (te (i * 4 + p9) - 40) from tm_v _ h43 (by omega)) ?_
          refine lv_ishl hx hb dX10_usedBy_39 ?_
          refine n_eq (show _ = nI (2 ^ (te (i * 4 + p9) - 40)) from nI_shl1 _ (by omega)) ?_
          refine lv_goto (tgt := 44) hx hb dX10_usedBy_40 (by decide) ?_
          refine lv_ior hx hb dX10_usedBy_44 ?_
          refine n_eq (show _ = nI (u ||| 2 ^ (te (i * 4 + p9) - 40)) from nI_or _ _) ?_
          refine lv_istore_n (lv' := [(2, .int (nI (u ||| 2 ^ (te (i * 4 + p9) - 40)))), (0, .ref (ad 60)), (1, .int (nI i)), (3, .int (nI (4 * i + p9)))]) hx hb dX10_usedBy_45 rfl hl (by decide) rfl (fun ls hl => ?_)
          refine lv_iinc (v := nI (4 * i + p9 + 1)) (lv' := [(3, .int (nI (4 * i + p9 + 1))), (2, .int (nI (u ||| 2 ^ (te (i * 4 + p9) - 40)))), (0, .ref (ad 60)), (1, .int (nI i))]) hx hb dX10_usedBy_46 hl (k := 3) rfl (nI_add (4 * i + p9) 1) (by decide) rfl (fun ls hl => ?_)
          refine lv_goto (tgt := 6) hx hb dX10_usedBy_49 (by decide) ?_
          exact ih_2 (p9 + 1) (u ||| 2 ^ (te (i * 4 + p9) - 40)) ls (by omega) (by omega) (by rw [ub, hu, vb, if_neg (by omega)]) (lv_sub hl [2, 3, 1, 0] rfl)
  exact lp6_1 ((ap i - 0) + 1) 0 0 ls (Nat.lt_succ_self _) (by omega) (rfl) (lv_sub hl [2, 3, 1, 0] rfl)
