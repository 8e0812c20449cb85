abbrev Atom : Type := Nat × Bool × List (Nat × Nat)
def preA (A : List Atom) (r : Nat ⊕ (List Atom × Nat)) : Nat ⊕ (List Atom × Nat) := match r with
  | .inl f => .inl f
  | .inr (L, u) => .inr (A ++ L, u)
theorem preA_pre (L L' : List Atom) (r : Nat ⊕ (List Atom × Nat)) : preA L (preA L' r) = preA (L ++ L') r := by
  rcases r with f | ⟨L2, u⟩
  · rfl
  · simp [preA]
theorem preA_nil (r : Nat ⊕ (List Atom × Nat)) : preA [] r = r := by
  rcases r with f | ⟨L2, u⟩ <;> rfl
/-- a question's text, at most m atoms -/
def rdAll (tb : Nat → Nat) (len : Nat) : Nat → Nat → Nat → Nat → Nat ⊕ (List Atom × Nat)
  | 0, g, _, _ => .inl g
  | m + 1, _, uv, p => match rdAtom tb len uv p with
    | .inl f => .inl f
    | .inr (p', a, uv') => if tkn tb len p' = nI 44 then preA [a] (rdAll tb len m (sk tb len p') uv' (ps tb len p')) else if tkn tb len p' = -1 then .inr ([a], uv') else .inl (sk tb len p')
section RL
variable {tb : Nat → Nat} {len : Nat} {m g uv p p' uv' f : Nat} {a : Atom}
theorem rdAll_f (h : rdAtom tb len uv p = .inl f) : rdAll tb len (m + 1) g uv p = .inl f := by rw [rdAll, h]
theorem rdAll_c (h : rdAtom tb len uv p = .inr (p', a, uv')) (h2 : tkn tb len p' = nI 44) : rdAll tb len (m + 1) g uv p = preA [a] (rdAll tb len m (sk tb len p') uv' (ps tb len p')) := by rw [rdAll, h]; simp only; rw [if_pos h2]
theorem rdAll_e (h : rdAtom tb len uv p = .inr (p', a, uv')) (h2 : ¬ tkn tb len p' = nI 44) (h3 : tkn tb len p' = -1) : rdAll tb len (m + 1) g uv p = .inr ([a], uv') := by rw [rdAll, h]; simp only; rw [if_neg h2, if_pos h3]
theorem rdAll_n (h : rdAtom tb len uv p = .inr (p', a, uv')) (h2 : ¬ tkn tb len p' = nI 44) (h3 : ¬ tkn tb len p' = -1) : rdAll tb len (m + 1) g uv p = .inl (sk tb len p') := by rw [rdAll, h]; simp only; rw [if_neg h2, if_neg h3]
end RL
/-- the atoms as the arrays hold them -/
def qR (kn : Nat → Nat) (nt : Nat → Bool) (pn av ro te : Nat → Nat) (A : List Atom) : Prop := ∀ i, i < A.length → kn i = (A.getD i (0, false, [])).1 ∧ kn i < 6 ∧ nt i = (A.getD i (0, false, [])).2.1 ∧ ptR pn av ro te i (A.getD i (0, false, [])).2.2 ∧ (A.getD i (0, false, [])).2.2.length ≤ 4
theorem ptR_same {pn av ro te pn' av' ro' te' : Nat → Nat} {n i : Nat} {L : List (Nat × Nat)} (h : ptR pn av ro te i L) (hl : L.length ≤ 4) (hs : sameB n pn av ro te pn' av' ro' te') (hi : i < n) : ptR pn' av' ro' te' i L := by
  obtain ⟨h1, h2, h3, h4⟩ := h
  refine ⟨by rw [(hs.1 i hi).1]; exact h1, by rw [(hs.1 i hi).2]; exact h2, fun j hj => ?_, h4⟩
  have h5 := hs.2 (i * 4 + j) (by omega)
  rw [h5.1, h5.2]
  exact h3 j hj
theorem qR_add {kn kn' : Nat → Nat} {nt nt' : Nat → Bool} {pn av ro te pn' av' ro' te' : Nat → Nat} {A : List Atom} {L : List (Nat × Nat)} {n : Nat} (hn : A.length = n) (h : qR kn nt pn av ro te A) (hk : kn' n < 6) (hp : ptR pn' av' ro' te' n L) (hl : L.length ≤ 4) (hs1 : ∀ j, j < n → kn' j = kn j ∧ nt' j = nt j) (hs : sameB n pn av ro te pn' av' ro' te') : qR kn' nt' pn' av' ro' te' (A ++ [(kn' n, nt' n, L)]) := by
  intro i hi
  rw [List.length_append] at hi
  simp only [List.length_cons, List.length_nil] at hi
  by_cases e : i = n
  · subst e
    have e3 : (A ++ [(kn' i, nt' i, L)]).getD i (0, false, []) = (kn' i, nt' i, L) := by rw [← hn]; simp
    rw [e3]
    exact ⟨rfl, hk, rfl, hp, hl⟩
  · have e3 : (A ++ [(kn' n, nt' n, L)]).getD i (0, false, []) = A.getD i (0, false, []) := by simp [List.getD_eq_getElem?_getD, List.getElem?_append_left (show i < A.length by omega)]
    rw [e3]
    obtain ⟨a1, a2, a3, a4, a5⟩ := h i (by omega)
    rw [(hs1 i (by omega)).1, (hs1 i (by omega)).2]
    exact ⟨a1, a2, a3, ptR_same a4 a5 hs (by omega), a5⟩

/-- X7_read -/
abbrev rm_c_X7_read : Room := { frames := 6, cells := 0, slots := 0, locals := 133 }
set_option maxHeartbeats 4000000 in
set_option maxRecDepth 100000 in
theorem c_X7_read (l : Launch) (G : GG) (z : Nat) (ad : Nat → Nat) (M : Mem) {aa : Nat} {bg : Nat} {tk : Int32} {vl : Int32} {len : Nat} {tb : Nat → Nat} {k : Nat} {qa : Nat} {uv : Nat} {kn : Nat → Nat} {nt : Nat → Bool} {pn : Nat → Nat} {av : Nat → Nat} {ro : Nat → Nat} {te : Nat → Nat} (h22 : M 22 = some (cReader ad aa bg tk vl)) (h1 : M 1 = some (cTape ad len)) (h2 : M 2 = some (aI G 400 (nF tb))) (hk : M k = some (cQuestion ad k qa uv)) (q1 : M (k + 1) = some (aI G 6 (nF kn))) (q2 : M (k + 2) = some (aZ G 6 (bF nt))) (q3 : M (k + 3) = some (aI G 6 (nF pn))) (q4 : M (k + 4) = some (aI G 6 (nF av))) (q5 : M (k + 5) = some (aI G 24 (nF ro))) (q6 : M (k + 6) = some (aI G 24 (nF te))) (hl4 : len ≤ 400) (htb : ∀ j, j < len → tb j < 256) (hk9 : 30 ≤ k ∧ k ≤ 44) : Met l yX7_read wsX7_read rm_c_X7_read (Pr G z ad M [.ref (ad 22), .ref (ad 1), .ref (ad k)]) (Ni G z ad (fun (r : Int32) (M' : Mem) => ∃ b2 : Bool, ∃ a2 : Nat, ∃ g2 : Nat, ∃ t2 : Int32, ∃ v2 : Int32, ∃ qa2 : Nat, ∃ uv2 : Nat, ∃ kn2 : Nat → Nat, ∃ nt2 : Nat → Bool, ∃ pn2 : Nat → Nat, ∃ av2 : Nat → Nat, ∃ ro2 : Nat → Nat, ∃ te2 : Nat → Nat, M' 22 = some (cReader ad a2 g2 t2 v2) ∧ M' k = some (cQuestion ad k qa2 uv2) ∧ M' (k + 1) = some (aI G 6 (nF kn2)) ∧ M' (k + 2) = some (aZ G 6 (bF nt2)) ∧ M' (k + 3) = some (aI G 6 (nF pn2)) ∧ M' (k + 4) = some (aI G 6 (nF av2)) ∧ M' (k + 5) = some (aI G 24 (nF ro2)) ∧ M' (k + 6) = some (aI G 24 (nF te2)) ∧ (∀ j : Nat, j ≠ 22 → j ≠ k → j ≠ (k + 1) → j ≠ (k + 2) → j ≠ (k + 3) → j ≠ (k + 4) → j ≠ (k + 5) → j ≠ (k + 6) → M' j = M j) ∧ (r = bI b2 ∧ (b2 = false ∧ rdAll tb len 6 0 0 0 = .inl g2 ∨ b2 = true ∧ ∃ A, rdAll tb len 6 0 0 0 = .inr (A, uv2) ∧ uv2 < 8 ∧ A.length = qa2 ∧ (0 < qa2 ∧ qa2 ≤ 6) ∧ qR kn2 nt2 pn2 av2 ro2 te2 A)))) 0 0 (fr z) := by
  refine Met.ofW (cc := cX7_read) (maxL := 4) (ret := (some .boolean)) (by decide) rfl ?_
  intro p e s m args below meth c s₁ B hml hv
  obtain ⟨rfl, hv⟩ := hv
  have hI := Iv.entry hv
  have hx := B.exec
  have hb := B.bytes
  have hr := B.returns
  have hts := atoms_spec (ws := wsX7_read) B.pre
  have hown : s.vm.findClass RX7 = some m.cls := findClass_of_methodNamed B.named
  have hlocks := B.notSynchronized
  have f_15 := hts _ (List.mem_cons_of_mem _ (lwg_of t_164 rfl))
  have i_RX7 : ∀ w ∈ u_ws RX7 TX7 4, w ∈ wsX7_read := fun w h => List.mem_cons_of_mem _ (iu_X7 w h)
  have f_31 := hts _ (List.mem_cons_of_mem _ (lwg_of t_166 rfl))
  have hl := lv_entry ([.ref (ad 22), .ref (ad 1), .ref (ad k)]) (n := 4) (Nat.le_of_ble_eq_true rfl)
  rw [lg_entry_eq]
  generalize (lg_sl ([.ref (ad 22), .ref (ad 1), .ref (ad k)]) ++ List.replicate (4 - (lg_sl ([.ref (ad 22), .ref (ad 1), .ref (ad k)])).length) Slot.unset).toArray = ls at hl ⊢
  have hl : lv_has ls 4 [(0, .ref (ad 22)), (1, .ref (ad 1)), (2, .ref (ad k))] := hl
  refine w_q (fun Q hQ => ?_)
  refine lv_aload_n hx hb dX7_read_0 rfl (lv_at hl 0 rfl) ?_
  refine lv_iconst (v := nI 0) hx hb dX7_read_1 (by decide) ?_
  refine h_put (C := RX7) (T := TX7) (N := 4) hx hb hts i_RX7 tyX7 tyX7_ok nmX7 hown hI h22 rfl 0 (by decide) f_15 rfl rfl rfl rfl (Nat.le_of_ble_eq_true rfl) dX7_read_2 (fun M_1 H_2 locs_3 eM_4 hI => ?_)
  have hm_5 : M_1 22 = some (cReader ad 0 bg tk vl) := by rw [eM_4]; exact va_up_self _ _ _
  have hm_6 : M_1 1 = some (cTape ad len) := by rw [eM_4, va_up_ne _ _ (by omega)]; exact h1
  have hm_7 : M_1 2 = some (aI G 400 (nF tb)) := by rw [eM_4, va_up_ne _ _ (by omega)]; exact h2
  have hm_8 : M_1 k = some (cQuestion ad k qa uv) := by rw [eM_4, va_up_ne _ _ (by omega)]; exact hk
  have hm_9 : M_1 (k + 1) = some (aI G 6 (nF kn)) := by rw [eM_4, va_up_ne _ _ (by omega)]; exact q1
  have hm_10 : M_1 (k + 2) = some (aZ G 6 (bF nt)) := by rw [eM_4, va_up_ne _ _ (by omega)]; exact q2
  have hm_11 : M_1 (k + 3) = some (aI G 6 (nF pn)) := by rw [eM_4, va_up_ne _ _ (by omega)]; exact q3
  have hm_12 : M_1 (k + 4) = some (aI G 6 (nF av)) := by rw [eM_4, va_up_ne _ _ (by omega)]; exact q4
  have hm_13 : M_1 (k + 5) = some (aI G 24 (nF ro)) := by rw [eM_4, va_up_ne _ _ (by omega)]; exact q5
  have hm_14 : M_1 (k + 6) = some (aI G 24 (nF te)) := by rw [eM_4, va_up_ne _ _ (by omega)]; exact q6
  have hF_15 : ∀ j : Nat, j ≠ 22 → M_1 j = M j := fun j q0 => by rw [eM_4, va_up_ne _ _ q0]
  refine lv_aload_n hx hb dX7_read_5 rfl (lv_at hl 2 rfl) ?_
  refine k_Nv (va_runV (As := []) (rest := []) ⟨hx, hb, hml, hown, hts⟩ (c_X6_clear l G z ad M_1 (k := k) (aa := qa) (uv := uv) hm_8) (cwV 0 hts (gV (lwg_of t_911 rfl) (lwg_of t_912 rfl) (lwg_of t_913 rfl) (lwg_of t_12 rfl) (lwg_of t_914 rfl)) rfl rfl rfl (by decide +kernel) ⟨Nat.le_of_ble_eq_true rfl, Nat.le_of_ble_eq_true rfl⟩) (hI.preV hm_8 rfl) rfl rfl hl.1 rfl (lv_room (Nat.le_of_ble_eq_true rfl)) dX7_read_6 ⟨Nat.le_of_ble_eq_true rfl, Nat.le_of_ble_eq_true rfl⟩) hI (fun M_18 H_19 locs_20 hp_17 hI => ?_)
  obtain ⟨hm_21, hF_22⟩ := hp_17
  have hm_23 : M_18 22 = some (cReader ad 0 bg tk vl) := by rw [hF_22 22 (by omega)]; exact hm_5
  have hm_24 : M_18 1 = some (cTape ad len) := by rw [hF_22 1 (by omega)]; exact hm_6
  have hm_25 : M_18 2 = some (aI G 400 (nF tb)) := by rw [hF_22 2 (by omega)]; exact hm_7
  have hm_26 : M_18 (k + 1) = some (aI G 6 (nF kn)) := by rw [hF_22 (k + 1) (by omega)]; exact hm_9
  have hm_27 : M_18 (k + 2) = some (aZ G 6 (bF nt)) := by rw [hF_22 (k + 2) (by omega)]; exact hm_10
  have hm_28 : M_18 (k + 3) = some (aI G 6 (nF pn)) := by rw [hF_22 (k + 3) (by omega)]; exact hm_11
  have hm_29 : M_18 (k + 4) = some (aI G 6 (nF av)) := by rw [hF_22 (k + 4) (by omega)]; exact hm_12
  have hm_30 : M_18 (k + 5) = some (aI G 24 (nF ro)) := by rw [hF_22 (k + 5) (by omega)]; exact hm_13
  have hm_31 : M_18 (k + 6) = some (aI G 24 (nF te)) := by rw [hF_22 (k + 6) (by omega)]; exact hm_14
  have hF_32 : ∀ j : Nat, j ≠ 22 → j ≠ k → M_18 j = M j := fun j q0 q1 => (hF_22 j q1).trans (hF_15 j q0)
  refine lv_iconst (v := nI 0) hx hb dX7_read_9 (by decide) ?_
  refine lv_istore_n (lv' := [(3, .int (nI 0)), (0, .ref (ad 22)), (1, .ref (ad 1)), (2, .ref (ad k))]) hx hb dX7_read_10 rfl hl (by decide) rfl (fun ls hl => ?_)
  have lp11_33 : ∀ (fuel : Nat) (i : Nat) (p9 : Nat) (gx : Nat) (tkx : Int32) (vlx : Int32) (uvx : Nat) (knx : Nat → Nat) (ntx : Nat → Bool) (pnx : Nat → Nat) (avx : Nat → Nat) (rox : Nat → Nat) (tex : Nat → Nat) (Ax : List Atom) (Mx : Mem) (Hx : Heap) (locsx : List Loc) (ls : Array Slot), (6 - i) < fuel → (i ≤ 6) → (p9 ≤ len) → (uvx < 8) → (Ax.length = i) → (qR knx ntx pnx avx rox tex Ax) → (rdAll tb len 6 0 0 0 = preA Ax (rdAll tb len (6 - i) gx uvx p9)) → Iv G z ad Mx s Hx locsx → Mx 22 = some (cReader ad p9 gx tkx vlx) → Mx k = some (cQuestion ad k i uvx) → Mx (k + 1) = some (aI G 6 (nF knx)) → Mx (k + 2) = some (aZ G 6 (bF ntx)) → Mx (k + 3) = some (aI G 6 (nF pnx)) → Mx (k + 4) = some (aI G 6 (nF avx)) → Mx (k + 5) = some (aI G 24 (nF rox)) → Mx (k + 6) = some (aI G 24 (nF tex)) → (∀ j : Nat, j ≠ 22 → j ≠ k → j ≠ (k + 1) → j ≠ (k + 2) → j ≠ (k + 3) → j ≠ (k + 4) → j ≠ (k + 5) → j ≠ (k + 6) → Mx j = M j) → lv_has ls 4 [(0, .ref (ad 22)), (1, .ref (ad 1)), (2, .ref (ad k)), (3, .int (nI i))] → W p l e (headSpec wsX7_read rm_c_X7_read).room s m ([.ref (ad 22), .ref (ad 1), .ref (ad k)] : List Value).toArray below meth c Hx locsx 0 0 Q (F0 m 11 ls []) := by
    intro fuel
    induction fuel with
    | zero => intro i p9 gx tkx vlx uvx knx ntx pnx avx rox tex Ax Mx Hx locsx ls hfu hi hp9 huvx hAl hq hrd hI hm_34 hm_35 hm_36 hm_37 hm_38 hm_39 hm_40 hm_41 hF_43 hl; exact absurd hfu (Nat.not_lt_zero _)
    | succ fuel ih_44 =>
      intro i p9 gx tkx vlx uvx knx ntx pnx avx rox tex Ax Mx Hx locsx ls hfu hi hp9 huvx hAl hq hrd hI hm_34 hm_35 hm_36 hm_37 hm_38 hm_39 hm_40 hm_41 hF_43 hl
      have hm_45 : Mx 1 = some (cTape ad len) := by rw [hF_43 1 (by omega) (by omega) (by omega) (by omega) (by omega) (by omega) (by omega) (by omega)]; exact h1
      have hm_46 : Mx 2 = some (aI G 400 (nF tb)) := by rw [hF_43 2 (by omega) (by omega) (by omega) (by omega) (by omega) (by omega) (by omega) (by omega)]; exact h2
      refine lv_iload_n hx hb dX7_read_11 rfl (lv_at hl 3 rfl) ?_
      refine lv_bipush (v := nI 6) hx hb dX7_read_12 (by decide) ?_
      refine lv_icmp_ge (tgt := 62) hx hb dX7_read_14 (by decide) (fun c_47 => ?_) (fun c_47 => ?_)
      · -- 14: nI i ge
        have c_47 : 6 ≤ i := (nI_leI (a := 6) (b := i) (by omega) (by omega)).mp (c_47)
        refine lv_iconst (v := nI 0) hx hb dX7_read_62 (by decide) ?_
        subst hQ
        exact e_Ni hx hb hr rfl hlocks hI ⟨false, p9, gx, tkx, vlx, i, uvx, knx, ntx, pnx, avx, rox, tex, hm_34, hm_35, hm_36, hm_37, hm_38, hm_39, hm_40, hm_41, (fun j q0 q1 q2 q3 q4 q5 q6 q7 => hF_43 j q0 q1 q2 q3 q4 q5 q6 q7), ⟨rfl, Or.inl ⟨rfl, (by rw [hrd, show 6 - i = 0 by omega, rdAll]; rfl)⟩⟩⟩ dX7_read_63
      · -- 14: nI i lt
        have c_47 : i < 6 := by have h := mt (nI_leI (a := 6) (b := i) (by omega) (by omega)).mpr c_47; omega
        have hs1 : 6 - i = (6 - (i + 1)) + 1 := by omega
        have hs2 : 6 - i = (5 - i) + 1 := by omega
        have hs3 : i + 1 ≤ 6 := by omega
        refine lv_aload_n hx hb dX7_read_17 rfl (lv_at hl 0 rfl) ?_
        refine lv_aload_n hx hb dX7_read_18 rfl (lv_at hl 1 rfl) ?_
        refine lv_aload_n hx hb dX7_read_19 rfl (lv_at hl 2 rfl) ?_
        refine k_Ni (va_runV (As := [.ref (ad 1), .ref (ad k)]) (rest := []) ⟨hx, hb, hml, hown, hts⟩ (c_X7_readAtom l G z ad Mx (aa := p9) (bg := gx) (tk := tkx) (vl := vlx) (len := len) (tb := tb) (k := k) (qa := i) (uv := uvx) (kn := knx) (nt := ntx) (pn := pnx) (av := avx) (ro := rox) (te := tex) hm_34 hm_45 hm_46 hm_35 hm_36 hm_37 hm_38 hm_39 hm_40 hm_41 (by omega) htb (by omega) (by omega) (by omega) (by omega)) (cwV 2 hts (gV (lwg_of t_915 rfl) (lwg_of t_917 rfl) (lwg_of ts_15 rfl) (lwg_of t_10 rfl) (lwg_of t_918 rfl)) rfl rfl rfl (by decide +kernel) ⟨Nat.le_of_ble_eq_true rfl, Nat.le_of_ble_eq_true rfl⟩) (hI.preV hm_34 rfl) rfl rfl hl.1 rfl (lv_room (Nat.le_of_ble_eq_true rfl)) dX7_read_20 ⟨Nat.le_of_ble_eq_true rfl, Nat.le_of_ble_eq_true rfl⟩) hI (fun r_48 M_50 H_51 locs_52 hp_49 hI => ?_)
        obtain ⟨b2_63, a2_64, g2_65, t2_66, v2_67, qa2_68, uv2_69, kn2_70, nt2_71, pn2_72, av2_73, ro2_74, te2_75, hm_53, hm_54, hm_55, hm_56, hm_57, hm_58, hm_59, hm_60, hF_61, hP_62⟩ := hp_49
        have hm_76 : M_50 1 = some (cTape ad len) := by rw [hF_61 1 (by omega) (by omega) (by omega) (by omega) (by omega) (by omega) (by omega) (by omega)]; exact hm_45
        have hm_77 : M_50 2 = some (aI G 400 (nF tb)) := by rw [hF_61 2 (by omega) (by omega) (by omega) (by omega) (by omega) (by omega) (by omega) (by omega)]; exact hm_46
        have hF_78 : ∀ j : Nat, j ≠ 22 → j ≠ k → j ≠ (k + 1) → j ≠ (k + 2) → j ≠ (k + 3) → j ≠ (k + 4) → j ≠ (k + 5) → j ≠ (k + 6) → M_50 j = M j := fun j q0 q1 q2 q3 q4 q5 q6 q7 => (hF_61 j q0 q1 q2 q3 q4 q5 q6 q7).trans (hF_43 j q0 q1 q2 q3 q4 q5 q6 q7)
        refine n_eq (show _ = bI b2_63 from hP_62.1) ?_
        refine lv_if_ne (tgt := 28) hx hb dX7_read_23 (by decide) (fun c_79 => ?_) (fun c_79 => ?_)
        · -- 23: bI b2_63 ne
          have c_79 : b2_63 = true := bI_t (c_79)
          obtain ⟨L9, hrp, hu9, hqa9, hk9x, hpt9, hl9, hsj, hsb9⟩ := (hP_62.2.2.resolve_left (fun h => by rw [h.1] at *; simp_all)).2
          have ha8 := hP_62.2.1
          refine lv_aload_n hx hb dX7_read_28 rfl (lv_at hl 0 rfl) ?_
          refine lv_aload_n hx hb dX7_read_29 rfl (lv_at hl 1 rfl) ?_
          refine k_Nv (va_runV (As := [.ref (ad 1)]) (rest := []) ⟨hx, hb, hml, hown, hts⟩ (c_X7_next2 l G z ad M_50 (aa := a2_64) (bg := g2_65) (tk := t2_66) (vl := v2_67) (len := len) (tb := tb) hm_53 hm_76 hm_77 (by omega) htb ha8) (cwV 1 hts (gV (lwg_of t_919 rfl) (lwg_of t_921 rfl) (lwg_of ts_16 rfl) (lwg_of t_10 rfl) (lwg_of t_922 rfl)) rfl rfl rfl (by decide +kernel) ⟨Nat.le_of_ble_eq_true rfl, Nat.le_of_ble_eq_true rfl⟩) (hI.preV hm_53 rfl) rfl rfl hl.1 rfl (lv_room (Nat.le_of_ble_eq_true rfl)) dX7_read_30 ⟨Nat.le_of_ble_eq_true rfl, Nat.le_of_ble_eq_true rfl⟩) hI (fun M_82 H_83 locs_84 hp_81 hI => ?_)
          obtain ⟨hm_85, hF_86⟩ := hp_81
          have hm_87 : M_82 1 = some (cTape ad len) := by rw [hF_86 1 (by omega)]; exact hm_76
          have hm_88 : M_82 2 = some (aI G 400 (nF tb)) := by rw [hF_86 2 (by omega)]; exact hm_77
          have hm_89 : M_82 k = some (cQuestion ad k qa2_68 uv2_69) := by rw [hF_86 k (by omega)]; exact hm_54
          have hm_90 : M_82 (k + 1) = some (aI G 6 (nF kn2_70)) := by rw [hF_86 (k + 1) (by omega)]; exact hm_55
          have hm_91 : M_82 (k + 2) = some (aZ G 6 (bF nt2_71)) := by rw [hF_86 (k + 2) (by omega)]; exact hm_56
          have hm_92 : M_82 (k + 3) = some (aI G 6 (nF pn2_72)) := by rw [hF_86 (k + 3) (by omega)]; exact hm_57
          have hm_93 : M_82 (k + 4) = some (aI G 6 (nF av2_73)) := by rw [hF_86 (k + 4) (by omega)]; exact hm_58
          have hm_94 : M_82 (k + 5) = some (aI G 24 (nF ro2_74)) := by rw [hF_86 (k + 5) (by omega)]; exact hm_59
          have hm_95 : M_82 (k + 6) = some (aI G 24 (nF te2_75)) := by rw [hF_86 (k + 6) (by omega)]; exact hm_60
          have hF_96 : ∀ j : Nat, j ≠ 22 → j ≠ k → j ≠ (k + 1) → j ≠ (k + 2) → j ≠ (k + 3) → j ≠ (k + 4) → j ≠ (k + 5) → j ≠ (k + 6) → M_82 j = M j := fun j q0 q1 q2 q3 q4 q5 q6 q7 => (hF_86 j q0).trans (hF_78 j q0 q1 q2 q3 q4 q5 q6 q7)
          refine lv_aload_n hx hb dX7_read_33 rfl (lv_at hl 0 rfl) ?_
          refine h_get (C := RX7) (T := TX7) (N := 4) hx hb hts i_RX7 hown hI hm_85 rfl 2 (by decide) f_31 rfl rfl dX7_read_34 ?_
          refine lv_bipush (v := nI 44) hx hb dX7_read_37 (by decide) ?_
          refine lv_icmp_eq (tgt := 56) hx hb dX7_read_39 (by decide) (fun c_97 => ?_) (fun c_97 => ?_)
          · -- 39: (tkn tb len a2_64) eq
            rw [hqa9] at hm_89
            refine lv_iinc (v := nI (i + 1)) (lv' := [(3, .int (nI (i + 1))), (0, .ref (ad 22)), (1, .ref (ad 1)), (2, .ref (ad k))]) hx hb dX7_read_56 hl (k := 3) rfl (nI_add i 1) (by decide) rfl (fun ls hl => ?_)
            refine lv_goto (tgt := 11) hx hb dX7_read_59 (by decide) ?_
            exact ih_44 (i + 1) (ps tb len a2_64) (sk tb len a2_64) (tkn tb len a2_64) (vln tb len a2_64 v2_67) uv2_69 kn2_70 nt2_71 pn2_72 av2_73 ro2_74 te2_75 (Ax ++ [(kn2_70 i, nt2_71 i, L9)]) M_82 H_83 locs_84 ls (by omega) (by omega) (ps_le ha8) (hu9) (by rw [List.length_append, hAl]; rfl) (qR_add hAl hq hk9x hpt9 hl9 hsj hsb9) (by rw [hrd, hs1, rdAll_c hrp (by assumption), preA_pre]) hI hm_85 hm_89 hm_90 hm_91 hm_92 hm_93 hm_94 hm_95 (fun j q0 q1 q2 q3 q4 q5 q6 q7 => hF_96 j q0 q1 q2 q3 q4 q5 q6 q7) (lv_sub hl [1, 2, 3, 0] rfl)
          · -- 39: (tkn tb len a2_64) ne
            refine lv_aload_n hx hb dX7_read_42 rfl (lv_at hl 0 rfl) ?_
            refine h_get (C := RX7) (T := TX7) (N := 4) hx hb hts i_RX7 hown hI hm_85 rfl 2 (by decide) f_31 rfl rfl dX7_read_43 ?_
            refine lv_iconst (v := (-1)) hx hb dX7_read_46 (by decide) ?_
            refine lv_icmp_ne (tgt := 54) hx hb dX7_read_47 (by decide) (fun c_98 => ?_) (fun c_98 => ?_)
            · -- 47: (tkn tb len a2_64) ne
              refine lv_iconst (v := nI 0) hx hb dX7_read_54 (by decide) ?_
              subst hQ
              exact e_Ni hx hb hr rfl hlocks hI ⟨false, ps tb len a2_64, sk tb len a2_64, tkn tb len a2_64, vln tb len a2_64 v2_67, qa2_68, uv2_69, kn2_70, nt2_71, pn2_72, av2_73, ro2_74, te2_75, hm_85, hm_89, hm_90, hm_91, hm_92, hm_93, hm_94, hm_95, (fun j q0 q1 q2 q3 q4 q5 q6 q7 => hF_96 j q0 q1 q2 q3 q4 q5 q6 q7), ⟨rfl, Or.inl ⟨rfl, (by rw [hrd, hs2, rdAll_n hrp (by assumption) (by assumption)]; rfl)⟩⟩⟩ dX7_read_55
            · -- 47: (tkn tb len a2_64) eq
              refine lv_iconst (v := nI 1) hx hb dX7_read_50 (by decide) ?_
              refine lv_goto (tgt := 55) hx hb dX7_read_51 (by decide) ?_
              subst hQ
              exact e_Ni hx hb hr rfl hlocks hI ⟨true, ps tb len a2_64, sk tb len a2_64, tkn tb len a2_64, vln tb len a2_64 v2_67, qa2_68, uv2_69, kn2_70, nt2_71, pn2_72, av2_73, ro2_74, te2_75, hm_85, hm_89, hm_90, hm_91, hm_92, hm_93, hm_94, hm_95, (fun j q0 q1 q2 q3 q4 q5 q6 q7 => hF_96 j q0 q1 q2 q3 q4 q5 q6 q7), ⟨rfl, Or.inr ⟨rfl, Ax ++ [(kn2_70 i, nt2_71 i, L9)], (by rw [hrd, hs2, rdAll_e hrp (by assumption) (by assumption)]; rfl), hu9, (by rw [List.length_append, hAl, hqa9]; rfl), (by rw [hqa9]; exact ⟨Nat.succ_pos _, hs3⟩), qR_add hAl hq hk9x hpt9 hl9 hsj hsb9⟩⟩⟩ dX7_read_55
        · -- 23: bI b2_63 eq
          have c_79 : b2_63 = false := bI_f (c_79)
          have hrp := (hP_62.2.2.resolve_right (fun h => by rw [h.1] at *; simp_all)).2
          have ha8 := hP_62.2.1
          refine lv_iconst (v := nI 0) hx hb dX7_read_26 (by decide) ?_
          subst hQ
          exact e_Ni hx hb hr rfl hlocks hI ⟨false, a2_64, g2_65, t2_66, v2_67, qa2_68, uv2_69, kn2_70, nt2_71, pn2_72, av2_73, ro2_74, te2_75, hm_53, hm_54, hm_55, hm_56, hm_57, hm_58, hm_59, hm_60, (fun j q0 q1 q2 q3 q4 q5 q6 q7 => hF_78 j q0 q1 q2 q3 q4 q5 q6 q7), ⟨rfl, Or.inl ⟨rfl, (by rw [hrd, hs2, rdAll_f hrp]; rfl)⟩⟩⟩ dX7_read_27
  exact lp11_33 ((6 - 0) + 1) 0 0 bg tk vl 0 kn nt pn av ro te ([]) M_18 H_19 locs_20 ls (Nat.lt_succ_self _) (by omega) (Nat.zero_le _) (by decide) (rfl) (fun i hi => absurd hi (Nat.not_lt_zero i)) ((preA_nil _).symm) hI hm_23 hm_21 hm_26 hm_27 hm_28 hm_29 hm_30 hm_31 (fun j q0 q1 q2 q3 q4 q5 q6 q7 => hF_32 j q0 q1) (lv_sub hl [1, 2, 3, 0] rfl)
