/-- the atoms as the model's arrays hold them, from atom o on -/
def mqR (ak : Nat → Int32) (nt : Nat → Bool) (ap : Nat → Nat) (pr pf : Nat → Int32) (o : Nat) (A : List Atom) : Prop := ∀ i, i < A.length → ak (o + i) = nI (A.getD i (0, false, [])).1 ∧ (A.getD i (0, false, [])).1 < 6 ∧ nt (o + i) = (A.getD i (0, false, [])).2.1 ∧ mpR ap pr pf (o + i) (A.getD i (0, false, [])).2.2 ∧ (A.getD i (0, false, [])).2.2.length ≤ 4
section MQ
variable {ak ak2 : Nat → Int32} {nt nt2 : Nat → Bool} {ap ap2 : Nat → Nat} {pr pf pr2 pf2 : Nat → Int32} {A : List Atom} {L : List (Nat × Nat)} {n i k9 : Nat}
theorem mpR_keep (h : mpR ap pr pf i L) (hl : L.length ≤ 4) (hk : keepM n ap pr pf ap2 pr2 pf2) (hi : i < n) : mpR ap2 pr2 pf2 i L := by
  obtain ⟨h1, h2, h3⟩ := h
  refine ⟨(hk.1 i hi).trans h1, fun j hj => ?_, h3⟩
  have h4 := hk.2 (4 * i + j) (by omega)
  exact ⟨h4.1.trans (h2 j hj).1, h4.2.trans (h2 j hj).2⟩
theorem mqR_add (hn : A.length = n) (h : mqR ak nt ap pr pf 6 A) (hk : (∀ j, j < 6 + n → ak2 j = ak j ∧ nt2 j = nt j) ∧ keepM (6 + n) ap pr pf ap2 pr2 pf2) (h1 : k9 < 6) (h2 : ak2 (6 + n) = nI k9) (h3 : mpR ap2 pr2 pf2 (6 + n) L) (hl : L.length ≤ 4) : mqR ak2 nt2 ap2 pr2 pf2 6 (A ++ [(k9, nt2 (6 + n), L)]) := by
  intro i hi
  rw [List.length_append] at hi
  simp only [List.length_cons, List.length_nil] at hi
  by_cases e : i = n
  · subst e
    have e3 : (A ++ [(k9, nt2 (6 + i), L)]).getD i (0, false, []) = (k9, nt2 (6 + i), L) := by rw [← hn]; simp
    rw [e3]
    exact ⟨h2, h1, rfl, h3, hl⟩
  · have e3 : (A ++ [(k9, nt2 (6 + n), L)]).getD i (0, false, []) = A.getD i (0, false, []) := by simp [List.getD_eq_getElem?_getD, List.getElem?_append_left (show i < A.length by omega)]
    rw [e3]
    obtain ⟨a1, a2, a3, a4, a5⟩ := h i (by omega)
    rw [(hk.1 (6 + i) (by omega)).1, (hk.1 (6 + i) (by omega)).2]
    exact ⟨a1, a2, a3, mpR_keep a4 a5 hk.2 (by omega), a5⟩
theorem keepM_tr {i j : Nat} {ap' : Nat → Nat} {pr' pf' : Nat → Int32} (h : keepM i ap pr pf ap' pr' pf') (h2 : keepM j ap' pr' pf' ap2 pr2 pf2) (hij : i ≤ j) : keepM i ap pr pf ap2 pr2 pf2 := ⟨fun k hk => (h2.1 k (by omega)).trans (h.1 k hk), fun k hk => ⟨(h2.2 k (by omega)).1.trans (h.2 k hk).1, (h2.2 k (by omega)).2.trans (h.2 k hk).2⟩⟩
end MQ

/-- X10_readAll -/
abbrev rm_c_X10_readAll : Room := { frames := 7, cells := 0, slots := 0, locals := 153 }
set_option maxHeartbeats 4000000 in
set_option maxRecDepth 100000 in
theorem c_X10_readAll (l : Launch) (G : GG) (z : Nat) (ad : Nat → Nat) (M : Mem) {th : Nat} {ln : Nat} {on : Nat} {ao : Nat} {vr : Nat} {sn : Nat} {tp : Nat} {pt : Nat} {zs : Nat} {bg : Nat} {fa : Int32} {f : Nat → Int32} {tb : Nat → Nat} {ak : Nat → Int32} {nt : Nat → Bool} {ap : Nat → Nat} {pr : Nat → Int32} {pf : Nat → Int32} (h60 : M 60 = some (cModel ad th ln on ao vr sn tp pt zs bg fa)) (h80 : M 80 = some (aB G 400 f)) (h75 : M 75 = some (aI G 12 ak)) (h76 : M 76 = some (aZ G 12 (bF nt))) (h77 : M 77 = some (aI G 12 (nF ap))) (h78 : M 78 = some (aI G 48 pr)) (h79 : M 79 = some (aI G 48 pf)) (hz4 : zs ≤ 400) (htb : ∀ j, j < zs → tb j < 256) (hf : ∀ j, j < zs → f j = sB (tb j)) : Met l yX10_readAll wsX10_readAll rm_c_X10_readAll (Pr G z ad M [.ref (ad 60)]) (Ni G z ad (fun (r : Int32) (M' : Mem) => ∃ o2 : Option Nat, ∃ pt2 : Nat, ∃ bg2 : Nat, ∃ sn2 : Nat, ∃ ak2 : Nat → Int32, ∃ nt2 : Nat → Bool, ∃ ap2 : Nat → Nat, ∃ pr2 : Nat → Int32, ∃ pf2 : Nat → Int32, M' 60 = some (cModel ad th ln on ao vr sn2 tp pt2 zs bg2 fa) ∧ M' 75 = some (aI G 12 ak2) ∧ M' 76 = some (aZ G 12 (bF nt2)) ∧ M' 77 = some (aI G 12 (nF ap2)) ∧ M' 78 = some (aI G 48 pr2) ∧ M' 79 = some (aI G 48 pf2) ∧ (∀ j : Nat, j ≠ 60 → j ≠ 75 → j ≠ 76 → j ≠ 77 → j ≠ 78 → j ≠ 79 → M' j = M j) ∧ (r = oI o2 ∧ ((∀ j, j < 6 → ak2 j = ak j ∧ nt2 j = nt j) ∧ keepM 6 ap pr pf ap2 pr2 pf2) ∧ (o2 = none ∧ rdAll tb zs 6 0 0 0 = .inl bg2 ∨ ∃ A, o2 = some A.length ∧ rdAll tb zs 6 0 0 0 = .inr (A, sn2) ∧ sn2 < 8 ∧ (0 < A.length ∧ A.length ≤ 6) ∧ mqR ak2 nt2 ap2 pr2 pf2 6 A)))) 0 0 (fr z) := by
  refine Met.ofW (cc := cX10_readAll) (maxL := 2) (ret := (some .int)) (by decide) rfl ?_
  intro p e s m args below meth c s₁ B hml hv
  obtain ⟨rfl, hv⟩ := hv
  have hI := Iv.entry hv
  have hx := B.exec
  have hb := B.bytes
  have hr := B.returns
  have hts := atoms_spec (ws := wsX10_readAll) B.pre
  have hown : s.vm.findClass RX10 = some m.cls := findClass_of_methodNamed B.named
  have hlocks := B.notSynchronized
  have f_161 := hts _ (List.mem_cons_of_mem _ (lwg_of t_1040 rfl))
  have i_RX10 : ∀ w ∈ u_ws RX10 TX10 38, w ∈ wsX10_readAll := fun w h => List.mem_cons_of_mem _ (iu_X10 w h)
  have f_207 := hts _ (List.mem_cons_of_mem _ (lwg_of t_1037 rfl))
  have f_164 := hts _ (List.mem_cons_of_mem _ (lwg_of t_1041 rfl))
  have hl := lv_entry ([.ref (ad 60)]) (n := 2) (Nat.le_of_ble_eq_true rfl)
  rw [lg_entry_eq]
  generalize (lg_sl ([.ref (ad 60)]) ++ List.replicate (2 - (lg_sl ([.ref (ad 60)])).length) Slot.unset).toArray = ls at hl ⊢
  have hl : lv_has ls 2 [(0, .ref (ad 60))] := hl
  refine w_q (fun Q hQ => ?_)
  refine lv_aload_n hx hb dX10_readAll_0 rfl (lv_at hl 0 rfl) ?_
  refine lv_iconst (v := nI 0) hx hb dX10_readAll_1 (by decide) ?_
  refine h_put (C := RX10) (T := TX10) (N := 38) hx hb hts i_RX10 tyX10 tyX10_ok nmX10 hown hI h60 rfl 27 (by decide) f_161 rfl rfl rfl rfl (Nat.le_of_ble_eq_true rfl) dX10_readAll_2 (fun M_1 H_2 locs_3 eM_4 hI => ?_)
  have hm_5 : M_1 60 = some (cModel ad th ln on ao vr sn tp 0 zs bg fa) := by rw [eM_4]; exact va_up_self _ _ _
  have hm_6 : M_1 80 = some (aB G 400 f) := by rw [eM_4, va_up_ne _ _ (by decide)]; exact h80
  have hm_7 : M_1 75 = some (aI G 12 ak) := by rw [eM_4, va_up_ne _ _ (by decide)]; exact h75
  have hm_8 : M_1 76 = some (aZ G 12 (bF nt)) := by rw [eM_4, va_up_ne _ _ (by decide)]; exact h76
  have hm_9 : M_1 77 = some (aI G 12 (nF ap)) := by rw [eM_4, va_up_ne _ _ (by decide)]; exact h77
  have hm_10 : M_1 78 = some (aI G 48 pr) := by rw [eM_4, va_up_ne _ _ (by decide)]; exact h78
  have hm_11 : M_1 79 = some (aI G 48 pf) := by rw [eM_4, va_up_ne _ _ (by decide)]; exact h79
  have hF_12 : ∀ j : Nat, j ≠ 60 → M_1 j = M j := fun j q0 => by rw [eM_4, va_up_ne _ _ q0]
  refine lv_aload_n hx hb dX10_readAll_5 rfl (lv_at hl 0 rfl) ?_
  refine lv_iconst (v := nI 0) hx hb dX10_readAll_6 (by decide) ?_
  refine h_put (C := RX10) (T := TX10) (N := 38) hx hb hts i_RX10 tyX10 tyX10_ok nmX10 hown hI hm_5 rfl 24 (by decide) f_207 rfl rfl rfl rfl (Nat.le_of_ble_eq_true rfl) dX10_readAll_7 (fun M_13 H_14 locs_15 eM_16 hI => ?_)
  have hm_17 : M_13 60 = some (cModel ad th ln on ao vr 0 tp 0 zs bg fa) := by rw [eM_16]; exact va_up_self _ _ _
  have hm_18 : M_13 80 = some (aB G 400 f) := by rw [eM_16, va_up_ne _ _ (by decide)]; exact hm_6
  have hm_19 : M_13 75 = some (aI G 12 ak) := by rw [eM_16, va_up_ne _ _ (by decide)]; exact hm_7
  have hm_20 : M_13 76 = some (aZ G 12 (bF nt)) := by rw [eM_16, va_up_ne _ _ (by decide)]; exact hm_8
  have hm_21 : M_13 77 = some (aI G 12 (nF ap)) := by rw [eM_16, va_up_ne _ _ (by decide)]; exact hm_9
  have hm_22 : M_13 78 = some (aI G 48 pr) := by rw [eM_16, va_up_ne _ _ (by decide)]; exact hm_10
  have hm_23 : M_13 79 = some (aI G 48 pf) := by rw [eM_16, va_up_ne _ _ (by decide)]; exact hm_11
  have hF_24 : ∀ j : Nat, j ≠ 60 → M_13 j = M j := fun j q0 => by rw [eM_16, va_up_ne _ _ q0]; exact hF_12 j q0
  refine lv_iconst (v := nI 0) hx hb dX10_readAll_10 (by decide) ?_
  refine lv_istore_n (lv' := [(1, .int (nI 0)), (0, .ref (ad 60))]) hx hb dX10_readAll_11 rfl hl (by decide) rfl (fun ls hl => ?_)
  have lp12_25 : ∀ (fuel : Nat) (c9 : Nat) (p9 : Nat) (gx : Nat) (snx : Nat) (akx : Nat → Int32) (ntx : Nat → Bool) (apx : Nat → Nat) (prx : Nat → Int32) (pfx : Nat → Int32) (Ax : List Atom) (Mx : Mem) (Hx : Heap) (locsx : List Loc) (ls : Array Slot), (6 - c9) < fuel → (c9 < 6) → (p9 ≤ zs) → (snx < 8) → (Ax.length = c9) → (mqR akx ntx apx prx pfx 6 Ax) → ((∀ j, j < 6 → akx j = ak j ∧ ntx j = nt j) ∧ keepM 6 ap pr pf apx prx pfx) → (rdAll tb zs 6 0 0 0 = preA Ax (rdAll tb zs (6 - c9) gx snx p9)) → Iv G z ad Mx s Hx locsx → Mx 60 = some (cModel ad th ln on ao vr snx tp p9 zs gx fa) → Mx 75 = some (aI G 12 akx) → Mx 76 = some (aZ G 12 (bF ntx)) → Mx 77 = some (aI G 12 (nF apx)) → Mx 78 = some (aI G 48 prx) → Mx 79 = some (aI G 48 pfx) → (∀ j : Nat, j ≠ 60 → j ≠ 75 → j ≠ 76 → j ≠ 77 → j ≠ 78 → j ≠ 79 → Mx j = M j) → lv_has ls 2 [(0, .ref (ad 60)), (1, .int (nI c9))] → W p l e (headSpec wsX10_readAll rm_c_X10_readAll).room s m ([.ref (ad 60)] : List Value).toArray below meth c Hx locsx 0 0 Q (F0 m 12 ls []) := by
    intro fuel
    induction fuel with
    | zero => intro c9 p9 gx snx akx ntx apx prx pfx Ax Mx Hx locsx ls hfu hc9 hp9 hsnx hAl hq hkp hrd hI hm_26 hm_27 hm_28 hm_29 hm_30 hm_31 hF_33 hl; exact absurd hfu (Nat.not_lt_zero _)
    | succ fuel ih_34 =>
      intro c9 p9 gx snx akx ntx apx prx pfx Ax Mx Hx locsx ls hfu hc9 hp9 hsnx hAl hq hkp hrd hI hm_26 hm_27 hm_28 hm_29 hm_30 hm_31 hF_33 hl
      have hm_35 : Mx 80 = some (aB G 400 f) := by rw [hF_33 80 (by omega) (by omega) (by omega) (by omega) (by omega) (by omega)]; exact h80
      refine lv_aload_n hx hb dX10_readAll_12 rfl (lv_at hl 0 rfl) ?_
      refine lv_iload_n hx hb dX10_readAll_13 rfl (lv_at hl 1 rfl) ?_
      refine k_Ni (va_runV (As := [.int (nI c9)]) (rest := []) ⟨hx, hb, hml, hown, hts⟩ (c_X10_readAtom l G z ad Mx (th := th) (ln := ln) (on := on) (ao := ao) (vr := vr) (sn := snx) (tp := tp) (pt := p9) (zs := zs) (bg := gx) (fa := fa) (f := f) (tb := tb) (ak := akx) (nt := ntx) (ap := apx) (pr := prx) (pf := pfx) (mm := c9) hm_26 hm_35 hm_27 hm_28 hm_29 hm_30 hm_31 ⟨hp9, hz4⟩ htb hf (by omega) (by omega)) (cwV 1 hts (gV (lwg_of t_1229 rfl) (lwg_of t_1231 rfl) (lwg_of ts_31 rfl) (lwg_of t_13 rfl) (lwg_of t_1232 rfl)) rfl rfl rfl (by decide +kernel) ⟨Nat.le_of_ble_eq_true rfl, Nat.le_of_ble_eq_true rfl⟩) (hI.preV hm_26 rfl) rfl rfl hl.1 rfl (lv_room (Nat.le_of_ble_eq_true rfl)) dX10_readAll_14 ⟨Nat.le_of_ble_eq_true rfl, Nat.le_of_ble_eq_true rfl⟩) hI (fun r_36 M_38 H_39 locs_40 hp_37 hI => ?_)
      obtain ⟨b2_49, pt2_50, bg2_51, sn2_52, ak2_53, nt2_54, ap2_55, pr2_56, pf2_57, hm_41, hm_42, hm_43, hm_44, hm_45, hm_46, hF_47, hP_48⟩ := hp_37
      have hm_58 : M_38 80 = some (aB G 400 f) := by rw [hF_47 80 (by omega) (by omega) (by omega) (by omega) (by omega) (by omega)]; exact hm_35
      have hF_59 : ∀ j : Nat, j ≠ 60 → j ≠ 75 → j ≠ 76 → j ≠ 77 → j ≠ 78 → j ≠ 79 → M_38 j = M j := fun j q0 q1 q2 q3 q4 q5 => (hF_47 j q0 q1 q2 q3 q4 q5).trans (hF_33 j q0 q1 q2 q3 q4 q5)
      refine n_eq (show _ = bI b2_49 from hP_48.1) ?_
      refine lv_if_ne (tgt := 22) hx hb dX10_readAll_17 (by decide) (fun c_60 => ?_) (fun c_60 => ?_)
      · -- 17: bI b2_49 ne
        have c_60 : b2_49 = true := bI_t (c_60)
        obtain ⟨-, k9, L9, hrp, hu9, hk9, hak9, hmp9, hl9⟩ := hP_48.2.2.2.resolve_left (fun h9 => Bool.noConfusion ((by assumption : b2_49 = true).symm.trans h9.1))
        have ha8 := hP_48.2.1
        have hkp8 := hP_48.2.2.1
        have hrl := run_le (P := bl tb) ha8
        refine lv_iinc (v := nI (c9 + 1)) (lv' := [(1, .int (nI (c9 + 1))), (0, .ref (ad 60))]) hx hb dX10_readAll_22 hl (k := 1) rfl (nI_add c9 1) (by decide) rfl (fun ls hl => ?_)
        refine lv_aload_n hx hb dX10_readAll_25 rfl (lv_at hl 1 rfl) ?_
        refine k_Nv (va_runV (As := []) (rest := []) ⟨hx, hb, hml, hown, hts⟩ (c_X10_blanks l G z ad M_38 (th := th) (ln := ln) (on := on) (ao := ao) (vr := vr) (sn := sn2_52) (tp := tp) (pt := pt2_50) (zs := zs) (bg := bg2_51) (fa := fa) (f := f) (tb := tb) hm_41 hm_58 ⟨ha8, hz4⟩ htb hf) (cwV 0 hts (gV (lwg_of t_1237 rfl) (lwg_of t_1239 rfl) (lwg_of ts_33 rfl) (lwg_of t_13 rfl) (lwg_of t_1240 rfl)) rfl rfl rfl (by decide +kernel) ⟨Nat.le_of_ble_eq_true rfl, Nat.le_of_ble_eq_true rfl⟩) (hI.preV hm_41 rfl) rfl rfl hl.1 rfl (lv_room (Nat.le_of_ble_eq_true rfl)) dX10_readAll_26 ⟨Nat.le_of_ble_eq_true rfl, Nat.le_of_ble_eq_true rfl⟩) hI (fun M_63 H_64 locs_65 hp_62 hI => ?_)
        obtain ⟨hm_66, hF_67⟩ := hp_62
        have hm_68 : M_63 80 = some (aB G 400 f) := by rw [hF_67 80 (by omega)]; exact hm_58
        have hm_69 : M_63 75 = some (aI G 12 ak2_53) := by rw [hF_67 75 (by omega)]; exact hm_42
        have hm_70 : M_63 76 = some (aZ G 12 (bF nt2_54)) := by rw [hF_67 76 (by omega)]; exact hm_43
        have hm_71 : M_63 77 = some (aI G 12 (nF ap2_55)) := by rw [hF_67 77 (by omega)]; exact hm_44
        have hm_72 : M_63 78 = some (aI G 48 pr2_56) := by rw [hF_67 78 (by omega)]; exact hm_45
        have hm_73 : M_63 79 = some (aI G 48 pf2_57) := by rw [hF_67 79 (by omega)]; exact hm_46
        have hF_74 : ∀ j : Nat, j ≠ 60 → j ≠ 75 → j ≠ 76 → j ≠ 77 → j ≠ 78 → j ≠ 79 → M_63 j = M j := fun j q0 q1 q2 q3 q4 q5 => (hF_67 j q0).trans (hF_59 j q0 q1 q2 q3 q4 q5)
        refine lv_aload_n hx hb dX10_readAll_29 rfl (lv_at hl 1 rfl) ?_
        refine h_get (C := RX10) (T := TX10) (N := 38) hx hb hts i_RX10 hown hI hm_66 rfl 27 (by decide) f_161 rfl rfl dX10_readAll_30 ?_
        refine lv_aload_n hx hb dX10_readAll_33 rfl (lv_at hl 1 rfl) ?_
        refine h_get (C := RX10) (T := TX10) (N := 38) hx hb hts i_RX10 hown hI hm_66 rfl 28 (by decide) f_164 rfl rfl dX10_readAll_34 ?_
        refine lv_icmp_ne (tgt := 42) hx hb dX10_readAll_37 (by decide) (fun c_75 => ?_) (fun c_75 => ?_)
        · -- 37: nI (run (bl tb) zs pt2_50) ne
          have c_75 : (run (bl tb) zs pt2_50) ≠ zs := by have h := mt (nI_eq (a := (run (bl tb) zs pt2_50)) (b := zs) (by omega) (by omega)).mpr c_75; omega
          refine lv_aload_n hx hb dX10_readAll_42 rfl (lv_at hl 1 rfl) ?_
          refine lv_bipush (v := nI 44) hx hb dX10_readAll_43 (by decide) ?_
          refine lv_bipush (v := nI 44) hx hb dX10_readAll_45 (by decide) ?_
          refine k_Ri (va_runV (As := [.int (nI 44), .int (nI 44)]) (rest := []) ⟨hx, hb, hml, hown, hts⟩ (c_X10_isAt l G z ad M_63 (th := th) (ln := ln) (on := on) (ao := ao) (vr := vr) (sn := sn2_52) (tp := tp) (pt := run (bl tb) zs pt2_50) (zs := zs) (bg := run (bl tb) zs pt2_50) (fa := fa) (f := f) (tb := tb) (lo := 44) (hi := 44) hm_66 hm_68 ⟨run_le ha8, hz4⟩ htb hf (by omega) (by omega)) (cwV 2 hts (gV (lwg_of t_1241 rfl) (lwg_of t_1243 rfl) (lwg_of ts_34 rfl) (lwg_of t_13 rfl) (lwg_of t_1244 rfl)) rfl rfl rfl (by decide +kernel) ⟨Nat.le_of_ble_eq_true rfl, Nat.le_of_ble_eq_true rfl⟩) (hI.preV hm_66 rfl) rfl rfl hl.1 rfl (lv_room (Nat.le_of_ble_eq_true rfl)) dX10_readAll_47 ⟨Nat.le_of_ble_eq_true rfl, Nat.le_of_ble_eq_true rfl⟩) (fun _ h => h) (fun r_76 hp_77 => ?_)
          rw [hp_77]
          refine lv_if_eq (tgt := 59) hx hb dX10_readAll_50 (by decide) (fun c_78 => ?_) (fun c_78 => ?_)
          · -- 50: bI (isA tb zs (run (bl tb) zs pt2_50) 44 44) eq
            have c_78 : isA tb zs (run (bl tb) zs pt2_50) 44 44 = false := bI_f (c_78)
            refine lv_iconst (v := (-1)) hx hb dX10_readAll_59 (by decide) ?_
            subst hQ
            exact e_Ni hx hb hr rfl hlocks hI ⟨none, run (bl tb) zs pt2_50, run (bl tb) zs pt2_50, sn2_52, ak2_53, nt2_54, ap2_55, pr2_56, pf2_57, hm_66, hm_69, hm_70, hm_71, hm_72, hm_73, (fun j q0 q1 q2 q3 q4 q5 => hF_74 j q0 q1 q2 q3 q4 q5), ⟨rfl, ⟨fun j hj => ⟨(hkp8.1 j (by omega)).1.trans (hkp.1 j hj).1, (hkp8.1 j (by omega)).2.trans (hkp.1 j hj).2⟩, keepM_tr hkp.2 hkp8.2 (by omega)⟩, Or.inl ⟨rfl, (by rw [hrd, show 6 - c9 = (5 - c9) + 1 by omega, rdAll_n hrp (sg_n (c := 44) (by decide) htb (by assumption)) (fun h9 => absurd ((tk_end htb).mp h9) (by omega))]; rfl)⟩⟩⟩ dX10_readAll_60
          · -- 50: bI (isA tb zs (run (bl tb) zs pt2_50) 44 44) ne
            have c_78 : isA tb zs (run (bl tb) zs pt2_50) 44 44 = true := bI_t (c_78)
            refine lv_iload_n hx hb dX10_readAll_53 rfl (lv_at hl 0 rfl) ?_
            refine lv_bipush (v := nI 6) hx hb dX10_readAll_54 (by decide) ?_
            refine lv_icmp_ne (tgt := 61) hx hb dX10_readAll_56 (by decide) (fun c_79 => ?_) (fun c_79 => ?_)
            · -- 56: nI (c9 + 1) ne
              have c_79 : c9 + 1 ≠ 6 := by have h := mt (nI_eq (a := c9 + 1) (b := 6) (by omega) (by omega)).mpr c_79; omega
              refine lv_aload_n hx hb dX10_readAll_61 rfl (lv_at hl 1 rfl) ?_
              refine lv_dup hx hb dX10_readAll_62 rfl ?_
              refine h_get (C := RX10) (T := TX10) (N := 38) hx hb hts i_RX10 hown hI hm_66 rfl 27 (by decide) f_161 rfl rfl dX10_readAll_63 ?_
              refine lv_iconst (v := nI 1) hx hb dX10_readAll_66 (by decide) ?_
              refine lv_iadd hx hb dX10_readAll_67 ?_
              refine n_eq (nI_add (run (bl tb) zs pt2_50) 1) ?_
              refine h_put (C := RX10) (T := TX10) (N := 38) hx hb hts i_RX10 tyX10 tyX10_ok nmX10 hown hI hm_66 rfl 27 (by decide) f_161 rfl rfl rfl rfl (Nat.le_of_ble_eq_true rfl) dX10_readAll_68 (fun M_80 H_81 locs_82 eM_83 hI => ?_)
              have hm_84 : M_80 80 = some (aB G 400 f) := by rw [eM_83, va_up_ne _ _ (by decide)]; exact hm_68
              have hm_85 : M_80 60 = some (cModel ad th ln on ao vr sn2_52 tp ((run (bl tb) zs pt2_50) + 1) zs (run (bl tb) zs pt2_50) fa) := by rw [eM_83]; exact va_up_self _ _ _
              have hm_86 : M_80 75 = some (aI G 12 ak2_53) := by rw [eM_83, va_up_ne _ _ (by decide)]; exact hm_69
              have hm_87 : M_80 76 = some (aZ G 12 (bF nt2_54)) := by rw [eM_83, va_up_ne _ _ (by decide)]; exact hm_70
              have hm_88 : M_80 77 = some (aI G 12 (nF ap2_55)) := by rw [eM_83, va_up_ne _ _ (by decide)]; exact hm_71
              have hm_89 : M_80 78 = some (aI G 48 pr2_56) := by rw [eM_83, va_up_ne _ _ (by decide)]; exact hm_72
              have hm_90 : M_80 79 = some (aI G 48 pf2_57) := by rw [eM_83, va_up_ne _ _ (by decide)]; exact hm_73
              have hF_91 : ∀ j : Nat, j ≠ 60 → j ≠ 75 → j ≠ 76 → j ≠ 77 → j ≠ 78 → j ≠ 79 → M_80 j = M j := fun j q0 q1 q2 q3 q4 q5 => by rw [eM_83, va_up_ne _ _ q0]; exact hF_74 j q0 q1 q2 q3 q4 q5
              refine lv_goto (tgt := 12) hx hb dX10_readAll_71 (by decide) ?_
              rw [← sg_ps (c := 44) (by decide) (by assumption)] at hm_85
              exact ih_34 (c9 + 1) (ps tb zs pt2_50) (run (bl tb) zs pt2_50) sn2_52 ak2_53 nt2_54 ap2_55 pr2_56 pf2_57 (Ax ++ [(k9, nt2_54 (6 + c9), L9)]) M_80 H_81 locs_82 ls (by omega) (by omega) (ps_le ha8) (hu9) (by rw [List.length_append, hAl]; rfl) (mqR_add hAl hq hkp8 hk9 hak9 hmp9 hl9) (⟨fun j hj => ⟨(hkp8.1 j (by omega)).1.trans (hkp.1 j hj).1, (hkp8.1 j (by omega)).2.trans (hkp.1 j hj).2⟩, keepM_tr hkp.2 hkp8.2 (by omega)⟩) (by rw [hrd, show 6 - c9 = (6 - (c9 + 1)) + 1 by omega, rdAll_c hrp ((sg_i (by decide) htb).mpr (by assumption)), preA_pre]; rfl) hI hm_85 hm_86 hm_87 hm_88 hm_89 hm_90 (fun j q0 q1 q2 q3 q4 q5 => hF_91 j q0 q1 q2 q3 q4 q5) (lv_sub hl [1, 0] rfl)
            · -- 56: nI (c9 + 1) eq
              have c_79 : c9 + 1 = 6 := (nI_eq (a := c9 + 1) (b := 6) (by omega) (by omega)).mp (c_79)
              refine lv_iconst (v := (-1)) hx hb dX10_readAll_59 (by decide) ?_
              subst hQ
              exact e_Ni hx hb hr rfl hlocks hI ⟨none, run (bl tb) zs pt2_50, run (bl tb) zs pt2_50, sn2_52, ak2_53, nt2_54, ap2_55, pr2_56, pf2_57, hm_66, hm_69, hm_70, hm_71, hm_72, hm_73, (fun j q0 q1 q2 q3 q4 q5 => hF_74 j q0 q1 q2 q3 q4 q5), ⟨rfl, ⟨fun j hj => ⟨(hkp8.1 j (by omega)).1.trans (hkp.1 j hj).1, (hkp8.1 j (by omega)).2.trans (hkp.1 j hj).2⟩, keepM_tr hkp.2 hkp8.2 (by omega)⟩, Or.inl ⟨rfl, (by rw [hrd, show 6 - c9 = 0 + 1 by omega, rdAll_c hrp ((sg_i (by decide) htb).mpr (by assumption)), rdAll]; rfl)⟩⟩⟩ dX10_readAll_60
        · -- 37: nI (run (bl tb) zs pt2_50) eq
          have c_75 : (run (bl tb) zs pt2_50) = zs := (nI_eq (a := (run (bl tb) zs pt2_50)) (b := zs) (by omega) (by omega)).mp (c_75)
          refine lv_iload_n hx hb dX10_readAll_40 rfl (lv_at hl 0 rfl) ?_
          subst hQ
          exact e_Ni hx hb hr rfl hlocks hI ⟨some (c9 + 1), run (bl tb) zs pt2_50, run (bl tb) zs pt2_50, sn2_52, ak2_53, nt2_54, ap2_55, pr2_56, pf2_57, hm_66, hm_69, hm_70, hm_71, hm_72, hm_73, (fun j q0 q1 q2 q3 q4 q5 => hF_74 j q0 q1 q2 q3 q4 q5), ⟨rfl, ⟨fun j hj => ⟨(hkp8.1 j (by omega)).1.trans (hkp.1 j hj).1, (hkp8.1 j (by omega)).2.trans (hkp.1 j hj).2⟩, keepM_tr hkp.2 hkp8.2 (by omega)⟩, Or.inr ⟨Ax ++ [(k9, nt2_54 (6 + c9), L9)], (by rw [List.length_append, hAl]; rfl), (by rw [hrd, show 6 - c9 = (5 - c9) + 1 by omega, rdAll_e hrp (fun h9 => absurd (((tk_end htb).mpr (by omega)).symm.trans h9) (by decide)) ((tk_end htb).mpr (by omega))]; rfl), hu9, (by rw [List.length_append, hAl]; exact ⟨Nat.succ_pos _, hc9⟩), mqR_add hAl hq hkp8 hk9 hak9 hmp9 hl9⟩⟩⟩ dX10_readAll_41
      · -- 17: bI b2_49 eq
        have c_60 : b2_49 = false := bI_f (c_60)
        obtain ⟨-, hrp⟩ := hP_48.2.2.2.resolve_right (fun h9 => Bool.noConfusion ((by assumption : b2_49 = false).symm.trans h9.1))
        have ha8 := hP_48.2.1
        have hkp8 := hP_48.2.2.1
        refine lv_iconst (v := (-1)) hx hb dX10_readAll_20 (by decide) ?_
        subst hQ
        exact e_Ni hx hb hr rfl hlocks hI ⟨none, pt2_50, bg2_51, sn2_52, ak2_53, nt2_54, ap2_55, pr2_56, pf2_57, hm_41, hm_42, hm_43, hm_44, hm_45, hm_46, (fun j q0 q1 q2 q3 q4 q5 => hF_59 j q0 q1 q2 q3 q4 q5), ⟨rfl, ⟨fun j hj => ⟨(hkp8.1 j (by omega)).1.trans (hkp.1 j hj).1, (hkp8.1 j (by omega)).2.trans (hkp.1 j hj).2⟩, keepM_tr hkp.2 hkp8.2 (by omega)⟩, Or.inl ⟨rfl, (by rw [hrd, show 6 - c9 = (5 - c9) + 1 by omega, rdAll_f hrp]; rfl)⟩⟩⟩ dX10_readAll_21
  exact lp12_25 ((6 - 0) + 1) 0 0 bg 0 ak nt ap pr pf ([]) M_13 H_14 locs_15 ls (Nat.lt_succ_self _) (by omega) (Nat.zero_le _) (by decide) (rfl) (fun i hi => absurd hi (Nat.not_lt_zero i)) (⟨fun _ _ => ⟨rfl, rfl⟩, fun _ _ => rfl, fun _ _ => ⟨rfl, rfl⟩⟩) (by rw [preA_nil]; rfl) hI hm_17 hm_19 hm_20 hm_21 hm_22 hm_23 (fun j q0 q1 q2 q3 q4 q5 => hF_24 j q0) (lv_sub hl [1, 0] rfl)
