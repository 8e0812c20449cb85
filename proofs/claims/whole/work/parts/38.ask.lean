/-! a throw behind changes of the memory -/
def xQ (G : GG) (z : Nat) (ad : Nat → Nat) (P : Mem → Prop) (E : String) : String → State → State → Prop := fun E' st t => E' = E ∧ ∃ M', P M' ∧ Hd G z ad M' t.heap ∧ va_F (fr z) st t
section TQ
variable {p : Program} {l : Launch} {e : Env} {R : Room} {s : State} {m : MethodId} {args : Array Value} {below : List Frame} {meth : Method} {c : Code} {H : Heap} {locs : List Loc} {cells slots : Nat}
variable {G : GG} {z : Nat} {ad : Nat → Nat} {M : Mem} {pc : Nat} {ls : Array Slot} {rest : List Value}
theorem w_imp {Q Q' : State → Prop} {g : JFrame} (h : ∀ t, Q t → Q' t) (k : W p l e R s m args below meth c H locs cells slots Q g) : W p l e R s m args below meth c H locs cells slots Q' g := fun T hT X => by
  obtain ⟨t, a, b⟩ := k T hT X
  exact ⟨t, a, h t b⟩
theorem xq_of {P : Mem → Prop} {E : String} {Qc : Array Value → State → Outcome → State → Prop} {mc ms : Nat} (hP : P M) : ∀ t, vx_MQ below Qc (xT G z ad M E) args s mc ms (fr z) t → vx_MQ below Qc (xQ G z ad P E) args s mc ms (fr z) t := by
  rintro t ⟨o, h1, h2, h3⟩
  refine ⟨o, h1, h2, ?_⟩
  rcases h3 with h | ⟨q, ho, E', ce, L, hx, hr⟩
  · exact Or.inl h
  · exact Or.inr ⟨q, ho, E', ce, L, ⟨hx.1, M, hP, hx.2⟩, hr⟩
theorem k_Q {mc ms : Nat} {E : String} {P : Mem → Prop} {Q : State → Prop} {st0 : List Value} (hr : vx_Run p l e R s m args below meth c H locs cells slots mc ms (F0 m pc ls st0) rest (fun (_ : State) (_ : Outcome) (_ : State) => False) (xQ G z ad P E) (fr z)) (hI : Iv G z ad M s H locs)
    (kx : ∀ (ce : Cell) (q9 : Addr) (M1 : Mem) (H1 : Heap) (locs1 : List Loc), P M1 → Iv G z ad M1 s H1 locs1 → H1[q9]? = some ce → ce.vm = .none → s.vm.findClass E = some ce.cls → vx_W p l e R s m args below meth c H1 locs1 (cells + mc) (slots + ms) Q (F0 m pc ls rest) q9) : W p l e R s m args below meth c H locs cells slots Q (F0 m pc ls st0) := by
  intro T hT X
  rcases hr T hT X with ⟨v, st₀, t, T', L, h0, X', hL, e1, e2, hF, st⟩ | ⟨q, st₀, t, T', L, E', ce, h0, X', hL, e1, e2, ⟨rfl, M1, hP, hH, hF⟩, hce, hcv, hcl, st⟩
  · exact hF.elim
  · obtain ⟨k1, k2, k3⟩ := vx_keep (A0 := fr z) (A1 := fr z) (free := fr z) h0 e1 hI.S (fun _ _ h => h) (fun _ h => h) hL hF
    obtain ⟨t2, a1, b1⟩ := kx ce q M1 T'.heap (locs ++ L) hP ⟨hI.1, by rw [e1]; exact hH, k3, hI.2.2.2⟩ (by rw [e1]; exact hce) hcv hcl T' rfl X'
    exact ⟨t2, st.trans a1, b1⟩
end TQ

/-- X9_question -/
abbrev rm_c_X9_question : Room := { frames := 7, cells := 0, slots := 0, locals := 156 }
set_option maxHeartbeats 4000000 in
set_option maxRecDepth 100000 in
theorem c_X9_question (l : Launch) (G : GG) (z : Nat) (ad : Nat → Nat) (M : Mem) {qa : Nat} {qs : Nat} {fw : Int32} {ra : Nat} {rb : Nat} {rt : Int32} {rv : Int32} {len : Nat} {tb : Nat → Nat} {sq : Nat} {su : Nat} {kn : Nat → Nat} {nt : Nat → Bool} {pn : Nat → Nat} {av : Nat → Nat} {ro : Nat → Nat} {te : Nat → Nat} {A : List Atom} {u : Nat} (h0 : M 0 = some (cStore ad qa qs fw)) (h22 : M 22 = some (cReader ad ra rb rt rv)) (h1 : M 1 = some (cTape ad len)) (h2 : M 2 = some (aI G 400 (nF tb))) (hk : M qs = some (cQuestion ad qs sq su)) (q1 : M (qs + 1) = some (aI G 6 (nF kn))) (q2 : M (qs + 2) = some (aZ G 6 (bF nt))) (q3 : M (qs + 3) = some (aI G 6 (nF pn))) (q4 : M (qs + 4) = some (aI G 6 (nF av))) (q5 : M (qs + 5) = some (aI G 24 (nF ro))) (q6 : M (qs + 6) = some (aI G 24 (nF te))) (hl4 : len ≤ 400) (htb : ∀ j, j < len → tb j < 256) (hqs : 30 ≤ qs ∧ qs ≤ 44) (hok : rdAll tb len 6 0 0 0 = .inr (A, u)) : Met l yX9_question wsX9_question rm_c_X9_question (Pr G z ad M [.ref (ad 0)]) (Ni G z ad (fun (r : Int32) (M' : Mem) => ∃ a2 : Nat, ∃ g2 : Nat, ∃ t2 : Int32, ∃ v2 : Int32, ∃ kn2 : Nat → Nat, ∃ nt2 : Nat → Bool, ∃ pn2 : Nat → Nat, ∃ av2 : Nat → Nat, ∃ ro2 : Nat → Nat, ∃ te2 : Nat → Nat, r = nI A.length ∧ M' 0 = some (cStore ad qs qa (-1)) ∧ M' 1 = some (cTape ad 0) ∧ M' 22 = some (cReader ad a2 g2 t2 v2) ∧ M' qs = some (cQuestion ad qs A.length u) ∧ M' (qs + 1) = some (aI G 6 (nF kn2)) ∧ M' (qs + 2) = some (aZ G 6 (bF nt2)) ∧ M' (qs + 3) = some (aI G 6 (nF pn2)) ∧ M' (qs + 4) = some (aI G 6 (nF av2)) ∧ M' (qs + 5) = some (aI G 24 (nF ro2)) ∧ M' (qs + 6) = some (aI G 24 (nF te2)) ∧ (∀ j : Nat, j ≠ 0 → j ≠ 1 → j ≠ 22 → j ≠ qs → j ≠ (qs + 1) → j ≠ (qs + 2) → j ≠ (qs + 3) → j ≠ (qs + 4) → j ≠ (qs + 5) → j ≠ (qs + 6) → M' j = M j) ∧ (u < 8 ∧ (0 < A.length ∧ A.length ≤ 6) ∧ qR kn2 nt2 pn2 av2 ro2 te2 A))) 0 0 (fr z) := by
  refine Met.ofW (cc := cX9_question) (maxL := 3) (ret := (some .int)) (by decide) rfl ?_
  intro p e s m args below meth c s₁ B hml hv
  obtain ⟨rfl, hv⟩ := hv
  have hI := Iv.entry hv
  have hx := B.exec
  have hb := B.bytes
  have hr := B.returns
  have hts := atoms_spec (ws := wsX9_question) B.pre
  have hown : s.vm.findClass RX9 = some m.cls := findClass_of_methodNamed B.named
  have hlocks := B.notSynchronized
  have i_RX9 : ∀ w ∈ u_ws RX9 TX9 10, w ∈ wsX9_question := fun w h => List.mem_cons_of_mem _ (iu_X9 w h)
  have f_47 := hts _ (List.mem_cons_of_mem _ (lwg_of t_244 rfl))
  have f_12 := hts _ (List.mem_cons_of_mem _ (lwg_of t_239 rfl))
  have f_65 := hts _ (List.mem_cons_of_mem _ (lwg_of t_247 rfl))
  have f_68 := hts _ (List.mem_cons_of_mem _ (lwg_of t_248 rfl))
  have f_61 := hts _ (List.mem_cons_of_mem _ (lwg_of t_246 rfl))
  have hl := lv_entry ([.ref (ad 0)]) (n := 3) (Nat.le_of_ble_eq_true rfl)
  rw [lg_entry_eq]
  generalize (lg_sl ([.ref (ad 0)]) ++ List.replicate (3 - (lg_sl ([.ref (ad 0)])).length) Slot.unset).toArray = ls at hl ⊢
  have hl : lv_has ls 3 [(0, .ref (ad 0))] := hl
  refine lv_aload_n hx hb dX9_question_0 rfl (lv_at hl 0 rfl) ?_
  refine h_get (C := RX9) (T := TX9) (N := 10) hx hb hts i_RX9 hown hI h0 rfl 5 (by decide) f_47 rfl rfl dX9_question_1 ?_
  refine lv_aload_n hx hb dX9_question_4 rfl (lv_at hl 0 rfl) ?_
  refine h_get (C := RX9) (T := TX9) (N := 10) hx hb hts i_RX9 hown hI h0 rfl 0 (by decide) f_12 rfl rfl dX9_question_5 ?_
  refine lv_aload_n hx hb dX9_question_8 rfl (lv_at hl 0 rfl) ?_
  refine h_get (C := RX9) (T := TX9) (N := 10) hx hb hts i_RX9 hown hI h0 rfl 8 (by decide) f_65 rfl rfl dX9_question_9 ?_
  refine k_Ni (va_runV (As := [.ref (ad 1), .ref (ad qs)]) (rest := []) ⟨hx, hb, hml, hown, hts⟩ (c_X7_read l G z ad M (aa := ra) (bg := rb) (tk := rt) (vl := rv) (len := len) (tb := tb) (k := qs) (qa := sq) (uv := su) (kn := kn) (nt := nt) (pn := pn) (av := av) (ro := ro) (te := te) h22 h1 h2 hk q1 q2 q3 q4 q5 q6 (by omega) htb (by omega)) (cwV 2 hts (gV (lwg_of t_907 rfl) (lwg_of t_908 rfl) (lwg_of t_909 rfl) (lwg_of t_10 rfl) (lwg_of t_910 rfl)) rfl rfl rfl (by decide +kernel) ⟨Nat.le_of_ble_eq_true rfl, Nat.le_of_ble_eq_true rfl⟩) (hI.preV h22 rfl) rfl rfl hl.1 rfl (lv_room (Nat.le_of_ble_eq_true rfl)) dX9_question_12 ⟨Nat.le_of_ble_eq_true rfl, Nat.le_of_ble_eq_true rfl⟩) hI (fun r_1 M_3 H_4 locs_5 hp_2 hI => ?_)
  obtain ⟨b2_16, a2_17, g2_18, t2_19, v2_20, qa2_21, uv2_22, kn2_23, nt2_24, pn2_25, av2_26, ro2_27, te2_28, hm_6, hm_7, hm_8, hm_9, hm_10, hm_11, hm_12, hm_13, hF_14, hP_15⟩ := hp_2
  have hm_29 : M_3 0 = some (cStore ad qa qs fw) := by rw [hF_14 0 (by omega) (by omega) (by omega) (by omega) (by omega) (by omega) (by omega) (by omega)]; exact h0
  have hm_30 : M_3 1 = some (cTape ad len) := by rw [hF_14 1 (by omega) (by omega) (by omega) (by omega) (by omega) (by omega) (by omega) (by omega)]; exact h1
  have hm_31 : M_3 2 = some (aI G 400 (nF tb)) := by rw [hF_14 2 (by omega) (by omega) (by omega) (by omega) (by omega) (by omega) (by omega) (by omega)]; exact h2
  have hF_32 : ∀ j : Nat, j ≠ 22 → j ≠ qs → j ≠ (qs + 1) → j ≠ (qs + 2) → j ≠ (qs + 3) → j ≠ (qs + 4) → j ≠ (qs + 5) → j ≠ (qs + 6) → M_3 j = M j := fun j q0 q1 q2 q3 q4 q5 q6 q7 => (hF_14 j q0 q1 q2 q3 q4 q5 q6 q7)
  refine n_eq (show _ = bI b2_16 from hP_15.1) ?_
  obtain ⟨hbt, A9, hA9, hu9, hl9, hq9, hqr9⟩ := hP_15.2.resolve_left (fun h => by rw [hok] at h; cases h.2)
  have hAe : (A, u) = (A9, uv2_22) := Sum.inr.inj (hok.symm.trans hA9)
  have hA1 : A9 = A := (congrArg Prod.fst hAe).symm
  have hu1 : uv2_22 = u := (congrArg Prod.snd hAe).symm
  refine lv_istore_n (lv' := [(1, .int (bI b2_16)), (0, .ref (ad 0))]) hx hb dX9_question_15 rfl hl (by decide) rfl (fun ls hl => ?_)
  refine lv_aload_n hx hb dX9_question_16 rfl (lv_at hl 1 rfl) ?_
  refine h_get (C := RX9) (T := TX9) (N := 10) hx hb hts i_RX9 hown hI hm_29 rfl 0 (by decide) f_12 rfl rfl dX9_question_17 ?_
  refine k_Nv (va_runV (As := []) (rest := []) ⟨hx, hb, hml, hown, hts⟩ (c_X8_clear l G z ad M_3 (len := len) hm_30) (cwV 0 hts (gV (lwg_of t_958 rfl) (lwg_of t_959 rfl) (lwg_of t_960 rfl) (lwg_of t_2 rfl) (lwg_of t_961 rfl)) rfl rfl rfl (by decide +kernel) ⟨Nat.le_of_ble_eq_true rfl, Nat.le_of_ble_eq_true rfl⟩) (hI.preV hm_30 rfl) rfl rfl hl.1 rfl (lv_room (Nat.le_of_ble_eq_true rfl)) dX9_question_20 ⟨Nat.le_of_ble_eq_true rfl, Nat.le_of_ble_eq_true rfl⟩) hI (fun M_35 H_36 locs_37 hp_34 hI => ?_)
  obtain ⟨hm_38, hF_39⟩ := hp_34
  have hm_40 : M_35 0 = some (cStore ad qa qs fw) := by rw [hF_39 0 (by omega)]; exact hm_29
  have hm_41 : M_35 22 = some (cReader ad a2_17 g2_18 t2_19 v2_20) := by rw [hF_39 22 (by omega)]; exact hm_6
  have hm_42 : M_35 2 = some (aI G 400 (nF tb)) := by rw [hF_39 2 (by omega)]; exact hm_31
  have hm_43 : M_35 qs = some (cQuestion ad qs qa2_21 uv2_22) := by rw [hF_39 qs (by omega)]; exact hm_7
  have hm_44 : M_35 (qs + 1) = some (aI G 6 (nF kn2_23)) := by rw [hF_39 (qs + 1) (by omega)]; exact hm_8
  have hm_45 : M_35 (qs + 2) = some (aZ G 6 (bF nt2_24)) := by rw [hF_39 (qs + 2) (by omega)]; exact hm_9
  have hm_46 : M_35 (qs + 3) = some (aI G 6 (nF pn2_25)) := by rw [hF_39 (qs + 3) (by omega)]; exact hm_10
  have hm_47 : M_35 (qs + 4) = some (aI G 6 (nF av2_26)) := by rw [hF_39 (qs + 4) (by omega)]; exact hm_11
  have hm_48 : M_35 (qs + 5) = some (aI G 24 (nF ro2_27)) := by rw [hF_39 (qs + 5) (by omega)]; exact hm_12
  have hm_49 : M_35 (qs + 6) = some (aI G 24 (nF te2_28)) := by rw [hF_39 (qs + 6) (by omega)]; exact hm_13
  have hF_50 : ∀ j : Nat, j ≠ 22 → j ≠ qs → j ≠ (qs + 1) → j ≠ (qs + 2) → j ≠ (qs + 3) → j ≠ (qs + 4) → j ≠ (qs + 5) → j ≠ (qs + 6) → j ≠ 1 → M_35 j = M j := fun j q0 q1 q2 q3 q4 q5 q6 q7 q8 => (hF_39 j q8).trans (hF_32 j q0 q1 q2 q3 q4 q5 q6 q7)
  refine lv_aload_n hx hb dX9_question_23 rfl (lv_at hl 1 rfl) ?_
  refine lv_iload_n hx hb dX9_question_24 rfl (lv_at hl 0 rfl) ?_
  refine lv_if_eq (tgt := 32) hx hb dX9_question_25 (by decide) (fun c_51 => ?_) (fun c_51 => ?_)
  · -- 25: bI b2_16 eq
    have c_51 : b2_16 = false := bI_f (c_51)
    exact absurd (hbt.symm.trans (by assumption : b2_16 = false)) (by decide)
  · -- 25: bI b2_16 ne
    have c_51 : b2_16 = true := bI_t (c_51)
    refine lv_iconst (v := (-1)) hx hb dX9_question_28 (by decide) ?_
    refine lv_goto (tgt := 39) hx hb dX9_question_29 (by decide) ?_
    refine h_put (C := RX9) (T := TX9) (N := 10) hx hb hts i_RX9 tyX9 tyX9_ok nmX9 hown hI hm_40 rfl 9 (by decide) f_68 rfl rfl rfl rfl (Nat.le_of_ble_eq_true rfl) dX9_question_39 (fun M_52 H_53 locs_54 eM_55 hI => ?_)
    have hm_56 : M_52 0 = some (cStore ad qa qs (-1)) := by rw [eM_55]; exact va_up_self _ _ _
    have hm_57 : M_52 22 = some (cReader ad a2_17 g2_18 t2_19 v2_20) := by rw [eM_55, va_up_ne _ _ (by decide)]; exact hm_41
    have hm_58 : M_52 1 = some (cTape ad 0) := by rw [eM_55, va_up_ne _ _ (by decide)]; exact hm_38
    have hm_59 : M_52 2 = some (aI G 400 (nF tb)) := by rw [eM_55, va_up_ne _ _ (by decide)]; exact hm_42
    have hm_60 : M_52 qs = some (cQuestion ad qs qa2_21 uv2_22) := by rw [eM_55, va_up_ne _ _ (by omega)]; exact hm_43
    have hm_61 : M_52 (qs + 1) = some (aI G 6 (nF kn2_23)) := by rw [eM_55, va_up_ne _ _ (by omega)]; exact hm_44
    have hm_62 : M_52 (qs + 2) = some (aZ G 6 (bF nt2_24)) := by rw [eM_55, va_up_ne _ _ (by omega)]; exact hm_45
    have hm_63 : M_52 (qs + 3) = some (aI G 6 (nF pn2_25)) := by rw [eM_55, va_up_ne _ _ (by omega)]; exact hm_46
    have hm_64 : M_52 (qs + 4) = some (aI G 6 (nF av2_26)) := by rw [eM_55, va_up_ne _ _ (by omega)]; exact hm_47
    have hm_65 : M_52 (qs + 5) = some (aI G 24 (nF ro2_27)) := by rw [eM_55, va_up_ne _ _ (by omega)]; exact hm_48
    have hm_66 : M_52 (qs + 6) = some (aI G 24 (nF te2_28)) := by rw [eM_55, va_up_ne _ _ (by omega)]; exact hm_49
    have hF_67 : ∀ j : Nat, j ≠ 22 → j ≠ qs → j ≠ (qs + 1) → j ≠ (qs + 2) → j ≠ (qs + 3) → j ≠ (qs + 4) → j ≠ (qs + 5) → j ≠ (qs + 6) → j ≠ 1 → j ≠ 0 → M_52 j = M j := fun j q0 q1 q2 q3 q4 q5 q6 q7 q8 q9 => by rw [eM_55, va_up_ne _ _ q9]; exact hF_50 j q0 q1 q2 q3 q4 q5 q6 q7 q8
    refine lv_iload_n hx hb dX9_question_42 rfl (lv_at hl 0 rfl) ?_
    refine lv_if_ne (tgt := 56) hx hb dX9_question_43 (by decide) (fun c_68 => ?_) (fun c_68 => ?_)
    · -- 43: bI b2_16 ne
      have c_68 : b2_16 = true := bI_t (c_68)
      refine lv_aload_n hx hb dX9_question_56 rfl (lv_at hl 1 rfl) ?_
      refine h_get (C := RX9) (T := TX9) (N := 10) hx hb hts i_RX9 hown hI hm_56 rfl 7 (by decide) f_61 rfl rfl dX9_question_57 ?_
      refine lv_astore_n (lv' := [(2, .ref (ad qa)), (1, .int (bI b2_16)), (0, .ref (ad 0))]) hx hb dX9_question_60 rfl hl (by decide) rfl (fun ls hl => ?_)
      refine lv_aload_n hx hb dX9_question_61 rfl (lv_at hl 2 rfl) ?_
      refine lv_aload_n hx hb dX9_question_62 rfl (lv_at hl 2 rfl) ?_
      refine h_get (C := RX9) (T := TX9) (N := 10) hx hb hts i_RX9 hown hI hm_56 rfl 8 (by decide) f_65 rfl rfl dX9_question_63 ?_
      refine h_put (C := RX9) (T := TX9) (N := 10) hx hb hts i_RX9 tyX9 tyX9_ok nmX9 hown hI hm_56 rfl 7 (by decide) f_61 rfl rfl rfl rfl (Nat.le_of_ble_eq_true rfl) dX9_question_66 (fun M_69 H_70 locs_71 eM_72 hI => ?_)
      have hm_73 : M_69 0 = some (cStore ad qs qs (-1)) := by rw [eM_72]; exact va_up_self _ _ _
      have hm_74 : M_69 22 = some (cReader ad a2_17 g2_18 t2_19 v2_20) := by rw [eM_72, va_up_ne _ _ (by decide)]; exact hm_57
      have hm_75 : M_69 1 = some (cTape ad 0) := by rw [eM_72, va_up_ne _ _ (by decide)]; exact hm_58
      have hm_76 : M_69 2 = some (aI G 400 (nF tb)) := by rw [eM_72, va_up_ne _ _ (by decide)]; exact hm_59
      have hm_77 : M_69 qs = some (cQuestion ad qs qa2_21 uv2_22) := by rw [eM_72, va_up_ne _ _ (by omega)]; exact hm_60
      have hm_78 : M_69 (qs + 1) = some (aI G 6 (nF kn2_23)) := by rw [eM_72, va_up_ne _ _ (by omega)]; exact hm_61
      have hm_79 : M_69 (qs + 2) = some (aZ G 6 (bF nt2_24)) := by rw [eM_72, va_up_ne _ _ (by omega)]; exact hm_62
      have hm_80 : M_69 (qs + 3) = some (aI G 6 (nF pn2_25)) := by rw [eM_72, va_up_ne _ _ (by omega)]; exact hm_63
      have hm_81 : M_69 (qs + 4) = some (aI G 6 (nF av2_26)) := by rw [eM_72, va_up_ne _ _ (by omega)]; exact hm_64
      have hm_82 : M_69 (qs + 5) = some (aI G 24 (nF ro2_27)) := by rw [eM_72, va_up_ne _ _ (by omega)]; exact hm_65
      have hm_83 : M_69 (qs + 6) = some (aI G 24 (nF te2_28)) := by rw [eM_72, va_up_ne _ _ (by omega)]; exact hm_66
      have hF_84 : ∀ j : Nat, j ≠ 22 → j ≠ qs → j ≠ (qs + 1) → j ≠ (qs + 2) → j ≠ (qs + 3) → j ≠ (qs + 4) → j ≠ (qs + 5) → j ≠ (qs + 6) → j ≠ 1 → j ≠ 0 → M_69 j = M j := fun j q0 q1 q2 q3 q4 q5 q6 q7 q8 q9 => by rw [eM_72, va_up_ne _ _ q9]; exact hF_67 j q0 q1 q2 q3 q4 q5 q6 q7 q8 q9
      refine lv_aload_n hx hb dX9_question_69 rfl (lv_at hl 2 rfl) ?_
      refine lv_aload_n hx hb dX9_question_70 rfl (lv_at hl 0 rfl) ?_
      refine h_put (C := RX9) (T := TX9) (N := 10) hx hb hts i_RX9 tyX9 tyX9_ok nmX9 hown hI hm_73 rfl 8 (by decide) f_65 rfl rfl rfl rfl (Nat.le_of_ble_eq_true rfl) dX9_question_71 (fun M_85 H_86 locs_87 eM_88 hI => ?_)
      have hm_89 : M_85 0 = some (cStore ad qs qa (-1)) := by rw [eM_88]; exact va_up_self _ _ _
      have hm_90 : M_85 22 = some (cReader ad a2_17 g2_18 t2_19 v2_20) := by rw [eM_88, va_up_ne _ _ (by decide)]; exact hm_74
      have hm_91 : M_85 1 = some (cTape ad 0) := by rw [eM_88, va_up_ne _ _ (by decide)]; exact hm_75
      have hm_92 : M_85 2 = some (aI G 400 (nF tb)) := by rw [eM_88, va_up_ne _ _ (by decide)]; exact hm_76
      have hm_93 : M_85 qs = some (cQuestion ad qs qa2_21 uv2_22) := by rw [eM_88, va_up_ne _ _ (by omega)]; exact hm_77
      have hm_94 : M_85 (qs + 1) = some (aI G 6 (nF kn2_23)) := by rw [eM_88, va_up_ne _ _ (by omega)]; exact hm_78
      have hm_95 : M_85 (qs + 2) = some (aZ G 6 (bF nt2_24)) := by rw [eM_88, va_up_ne _ _ (by omega)]; exact hm_79
      have hm_96 : M_85 (qs + 3) = some (aI G 6 (nF pn2_25)) := by rw [eM_88, va_up_ne _ _ (by omega)]; exact hm_80
      have hm_97 : M_85 (qs + 4) = some (aI G 6 (nF av2_26)) := by rw [eM_88, va_up_ne _ _ (by omega)]; exact hm_81
      have hm_98 : M_85 (qs + 5) = some (aI G 24 (nF ro2_27)) := by rw [eM_88, va_up_ne _ _ (by omega)]; exact hm_82
      have hm_99 : M_85 (qs + 6) = some (aI G 24 (nF te2_28)) := by rw [eM_88, va_up_ne _ _ (by omega)]; exact hm_83
      have hF_100 : ∀ j : Nat, j ≠ 22 → j ≠ qs → j ≠ (qs + 1) → j ≠ (qs + 2) → j ≠ (qs + 3) → j ≠ (qs + 4) → j ≠ (qs + 5) → j ≠ (qs + 6) → j ≠ 1 → j ≠ 0 → M_85 j = M j := fun j q0 q1 q2 q3 q4 q5 q6 q7 q8 q9 => by rw [eM_88, va_up_ne _ _ q9]; exact hF_84 j q0 q1 q2 q3 q4 q5 q6 q7 q8 q9
      refine lv_aload_n hx hb dX9_question_74 rfl (lv_at hl 2 rfl) ?_
      refine h_get (C := RX9) (T := TX9) (N := 10) hx hb hts i_RX9 hown hI hm_89 rfl 7 (by decide) f_61 rfl rfl dX9_question_75 ?_
      refine k_Ri (va_runV (As := []) (rest := []) ⟨hx, hb, hml, hown, hts⟩ (c_X6_atoms l G z ad M_85 (k := qs) (aa := qa2_21) (uv := uv2_22) hm_93) (cwV 0 hts (gV (lwg_of t_315 rfl) (lwg_of t_316 rfl) (lwg_of t_317 rfl) (lwg_of t_12 rfl) (lwg_of t_318 rfl)) rfl rfl rfl (by decide +kernel) ⟨Nat.le_of_ble_eq_true rfl, Nat.le_of_ble_eq_true rfl⟩) (hI.preV hm_93 rfl) rfl rfl hl.1 rfl (lv_room (Nat.le_of_ble_eq_true rfl)) dX9_question_78 ⟨Nat.le_of_ble_eq_true rfl, Nat.le_of_ble_eq_true rfl⟩) (fun _ h => h) (fun r_101 hp_102 => ?_)
      rw [hp_102]
      exact e_Ni hx hb hr rfl hlocks hI ⟨a2_17, g2_18, t2_19, v2_20, kn2_23, nt2_24, pn2_25, av2_26, ro2_27, te2_28, (by rw [← hl9, hA1]), hm_89, hm_91, hm_90, (by rw [← hA1, hl9, ← hu1]; exact hm_93), hm_94, hm_95, hm_96, hm_97, hm_98, hm_99, (fun j q0 q1 q2 q3 q4 q5 q6 q7 q8 q9 => hF_100 j q2 q3 q4 q5 q6 q7 q8 q9 q1 q0), ⟨by rw [← hu1]; exact hu9, by rw [← hA1, hl9]; exact hq9, by rw [← hA1]; exact hqr9⟩⟩ dX9_question_81
    · -- 43: bI b2_16 eq
      have c_68 : b2_16 = false := bI_f (c_68)
      exact absurd (hbt.symm.trans (by assumption : b2_16 = false)) (by decide)

/-- X9_question -/
abbrev rm_c_X9_question_T : Room := { frames := 7, cells := 1, slots := 6, locals := 156 }
set_option maxHeartbeats 4000000 in
set_option maxRecDepth 100000 in
theorem c_X9_question_T (l : Launch) (hst : l.stackTraces = false) (G : GG) (z : Nat) (ad : Nat → Nat) (M : Mem) {qa : Nat} {qs : Nat} {fw : Int32} {ra : Nat} {rb : Nat} {rt : Int32} {rv : Int32} {len : Nat} {tb : Nat → Nat} {sq : Nat} {su : Nat} {kn : Nat → Nat} {nt : Nat → Bool} {pn : Nat → Nat} {av : Nat → Nat} {ro : Nat → Nat} {te : Nat → Nat} {g : Nat} (h0 : M 0 = some (cStore ad qa qs fw)) (h22 : M 22 = some (cReader ad ra rb rt rv)) (h1 : M 1 = some (cTape ad len)) (h2 : M 2 = some (aI G 400 (nF tb))) (hk : M qs = some (cQuestion ad qs sq su)) (q1 : M (qs + 1) = some (aI G 6 (nF kn))) (q2 : M (qs + 2) = some (aZ G 6 (bF nt))) (q3 : M (qs + 3) = some (aI G 6 (nF pn))) (q4 : M (qs + 4) = some (aI G 6 (nF av))) (q5 : M (qs + 5) = some (aI G 24 (nF ro))) (q6 : M (qs + 6) = some (aI G 24 (nF te))) (hl4 : len ≤ 400) (htb : ∀ j, j < len → tb j < 256) (hqs : 30 ≤ qs ∧ qs ≤ 44) (hno : rdAll tb len 6 0 0 0 = .inl g) : vx_Met l yX9_question wsX9_question rm_c_X9_question_T (Pr G z ad M [.ref (ad 0)]) (fun _ _ _ _ => False) (xQ G z ad (fun M' => ∃ a2 : Nat, ∃ g2 : Nat, ∃ t2 : Int32, ∃ v2 : Int32, ∃ q2 : Nat, ∃ u2 : Nat, ∃ kn2 : Nat → Nat, ∃ nt2 : Nat → Bool, ∃ pn2 : Nat → Nat, ∃ av2 : Nat → Nat, ∃ ro2 : Nat → Nat, ∃ te2 : Nat → Nat, M' 0 = some (cStore ad qa qs (nI g)) ∧ M' 1 = some (cTape ad 0) ∧ M' 22 = some (cReader ad a2 g2 t2 v2) ∧ M' qs = some (cQuestion ad qs q2 u2) ∧ M' (qs + 1) = some (aI G 6 (nF kn2)) ∧ M' (qs + 2) = some (aZ G 6 (bF nt2)) ∧ M' (qs + 3) = some (aI G 6 (nF pn2)) ∧ M' (qs + 4) = some (aI G 6 (nF av2)) ∧ M' (qs + 5) = some (aI G 24 (nF ro2)) ∧ M' (qs + 6) = some (aI G 24 (nF te2)) ∧ (∀ j : Nat, j ≠ 0 → j ≠ 1 → j ≠ 22 → j ≠ qs → j ≠ (qs + 1) → j ≠ (qs + 2) → j ≠ (qs + 3) → j ≠ (qs + 4) → j ≠ (qs + 5) → j ≠ (qs + 6) → M' j = M j)) "java/lang/IllegalArgumentException") 1 6 (fr z) := by
  refine vx_ofW (cc := cX9_question) (maxL := 3) (ret := (some .int)) (by decide) rfl ?_
  intro p e s m args below meth c s₁ B hml hnt hv
  obtain ⟨rfl, hv⟩ := hv
  have hI := Iv.entry hv
  have hx := B.exec
  have hb := B.bytes
  have hr := B.returns
  have hts := atoms_spec (ws := wsX9_question) B.pre
  have hown : s.vm.findClass RX9 = some m.cls := findClass_of_methodNamed B.named
  have hlocks := B.notSynchronized
  have i_RX9 : ∀ w ∈ u_ws RX9 TX9 10, w ∈ wsX9_question := fun w h => List.mem_cons_of_mem _ (iu_X9 w h)
  have f_47 := hts _ (List.mem_cons_of_mem _ (lwg_of t_244 rfl))
  have f_12 := hts _ (List.mem_cons_of_mem _ (lwg_of t_239 rfl))
  have f_65 := hts _ (List.mem_cons_of_mem _ (lwg_of t_247 rfl))
  have f_68 := hts _ (List.mem_cons_of_mem _ (lwg_of t_248 rfl))
  have tk_A := hts _ (List.mem_cons_of_mem _ (lwg_of t_553 rfl))
  have ti_A := hts _ (List.mem_cons_of_mem _ (lwg_of t_19 rfl))
  have hl := lv_entry ([.ref (ad 0)]) (n := 3) (Nat.le_of_ble_eq_true rfl)
  rw [lg_entry_eq]
  generalize (lg_sl ([.ref (ad 0)]) ++ List.replicate (3 - (lg_sl ([.ref (ad 0)])).length) Slot.unset).toArray = ls at hl ⊢
  have hl : lv_has ls 3 [(0, .ref (ad 0))] := hl
  refine lv_aload_n hx hb dX9_question_0 rfl (lv_at hl 0 rfl) ?_
  refine h_get (C := RX9) (T := TX9) (N := 10) hx hb hts i_RX9 hown hI h0 rfl 5 (by decide) f_47 rfl rfl dX9_question_1 ?_
  refine lv_aload_n hx hb dX9_question_4 rfl (lv_at hl 0 rfl) ?_
  refine h_get (C := RX9) (T := TX9) (N := 10) hx hb hts i_RX9 hown hI h0 rfl 0 (by decide) f_12 rfl rfl dX9_question_5 ?_
  refine lv_aload_n hx hb dX9_question_8 rfl (lv_at hl 0 rfl) ?_
  refine h_get (C := RX9) (T := TX9) (N := 10) hx hb hts i_RX9 hown hI h0 rfl 8 (by decide) f_65 rfl rfl dX9_question_9 ?_
  refine k_Ni (va_runV (As := [.ref (ad 1), .ref (ad qs)]) (rest := []) ⟨hx, hb, hml, hown, hts⟩ (c_X7_read l G z ad M (aa := ra) (bg := rb) (tk := rt) (vl := rv) (len := len) (tb := tb) (k := qs) (qa := sq) (uv := su) (kn := kn) (nt := nt) (pn := pn) (av := av) (ro := ro) (te := te) h22 h1 h2 hk q1 q2 q3 q4 q5 q6 (by omega) htb (by omega)) (cwV 2 hts (gV (lwg_of t_907 rfl) (lwg_of t_908 rfl) (lwg_of t_909 rfl) (lwg_of t_10 rfl) (lwg_of t_910 rfl)) rfl rfl rfl (by decide +kernel) ⟨Nat.le_of_ble_eq_true rfl, Nat.le_of_ble_eq_true rfl⟩) (hI.preV h22 rfl) rfl rfl hl.1 rfl (lv_room (Nat.le_of_ble_eq_true rfl)) dX9_question_12 ⟨Nat.le_of_ble_eq_true rfl, Nat.le_of_ble_eq_true rfl⟩) hI (fun r_1 M_3 H_4 locs_5 hp_2 hI => ?_)
  obtain ⟨b2_16, a2_17, g2_18, t2_19, v2_20, qa2_21, uv2_22, kn2_23, nt2_24, pn2_25, av2_26, ro2_27, te2_28, hm_6, hm_7, hm_8, hm_9, hm_10, hm_11, hm_12, hm_13, hF_14, hP_15⟩ := hp_2
  have hm_29 : M_3 0 = some (cStore ad qa qs fw) := by rw [hF_14 0 (by omega) (by omega) (by omega) (by omega) (by omega) (by omega) (by omega) (by omega)]; exact h0
  have hm_30 : M_3 1 = some (cTape ad len) := by rw [hF_14 1 (by omega) (by omega) (by omega) (by omega) (by omega) (by omega) (by omega) (by omega)]; exact h1
  have hm_31 : M_3 2 = some (aI G 400 (nF tb)) := by rw [hF_14 2 (by omega) (by omega) (by omega) (by omega) (by omega) (by omega) (by omega) (by omega)]; exact h2
  have hF_32 : ∀ j : Nat, j ≠ 22 → j ≠ qs → j ≠ (qs + 1) → j ≠ (qs + 2) → j ≠ (qs + 3) → j ≠ (qs + 4) → j ≠ (qs + 5) → j ≠ (qs + 6) → M_3 j = M j := fun j q0 q1 q2 q3 q4 q5 q6 q7 => (hF_14 j q0 q1 q2 q3 q4 q5 q6 q7)
  refine n_eq (show _ = bI b2_16 from hP_15.1) ?_
  obtain ⟨hbf, hg9⟩ := hP_15.2.resolve_right (fun h => by obtain ⟨_, A9, h9, _⟩ := h; rw [hno] at h9; cases h9)
  have hg1 : g2_18 = g := (Sum.inl.inj (hno.symm.trans hg9)).symm
  refine lv_istore_n (lv' := [(1, .int (bI b2_16)), (0, .ref (ad 0))]) hx hb dX9_question_15 rfl hl (by decide) rfl (fun ls hl => ?_)
  refine lv_aload_n hx hb dX9_question_16 rfl (lv_at hl 1 rfl) ?_
  refine h_get (C := RX9) (T := TX9) (N := 10) hx hb hts i_RX9 hown hI hm_29 rfl 0 (by decide) f_12 rfl rfl dX9_question_17 ?_
  refine k_Nv (va_runV (As := []) (rest := []) ⟨hx, hb, hml, hown, hts⟩ (c_X8_clear l G z ad M_3 (len := len) hm_30) (cwV 0 hts (gV (lwg_of t_958 rfl) (lwg_of t_959 rfl) (lwg_of t_960 rfl) (lwg_of t_2 rfl) (lwg_of t_961 rfl)) rfl rfl rfl (by decide +kernel) ⟨Nat.le_of_ble_eq_true rfl, Nat.le_of_ble_eq_true rfl⟩) (hI.preV hm_30 rfl) rfl rfl hl.1 rfl (lv_room (Nat.le_of_ble_eq_true rfl)) dX9_question_20 ⟨Nat.le_of_ble_eq_true rfl, Nat.le_of_ble_eq_true rfl⟩) hI (fun M_35 H_36 locs_37 hp_34 hI => ?_)
  obtain ⟨hm_38, hF_39⟩ := hp_34
  have hm_40 : M_35 0 = some (cStore ad qa qs fw) := by rw [hF_39 0 (by omega)]; exact hm_29
  have hm_41 : M_35 22 = some (cReader ad a2_17 g2_18 t2_19 v2_20) := by rw [hF_39 22 (by omega)]; exact hm_6
  have hm_42 : M_35 2 = some (aI G 400 (nF tb)) := by rw [hF_39 2 (by omega)]; exact hm_31
  have hm_43 : M_35 qs = some (cQuestion ad qs qa2_21 uv2_22) := by rw [hF_39 qs (by omega)]; exact hm_7
  have hm_44 : M_35 (qs + 1) = some (aI G 6 (nF kn2_23)) := by rw [hF_39 (qs + 1) (by omega)]; exact hm_8
  have hm_45 : M_35 (qs + 2) = some (aZ G 6 (bF nt2_24)) := by rw [hF_39 (qs + 2) (by omega)]; exact hm_9
  have hm_46 : M_35 (qs + 3) = some (aI G 6 (nF pn2_25)) := by rw [hF_39 (qs + 3) (by omega)]; exact hm_10
  have hm_47 : M_35 (qs + 4) = some (aI G 6 (nF av2_26)) := by rw [hF_39 (qs + 4) (by omega)]; exact hm_11
  have hm_48 : M_35 (qs + 5) = some (aI G 24 (nF ro2_27)) := by rw [hF_39 (qs + 5) (by omega)]; exact hm_12
  have hm_49 : M_35 (qs + 6) = some (aI G 24 (nF te2_28)) := by rw [hF_39 (qs + 6) (by omega)]; exact hm_13
  have hF_50 : ∀ j : Nat, j ≠ 22 → j ≠ qs → j ≠ (qs + 1) → j ≠ (qs + 2) → j ≠ (qs + 3) → j ≠ (qs + 4) → j ≠ (qs + 5) → j ≠ (qs + 6) → j ≠ 1 → M_35 j = M j := fun j q0 q1 q2 q3 q4 q5 q6 q7 q8 => (hF_39 j q8).trans (hF_32 j q0 q1 q2 q3 q4 q5 q6 q7)
  refine lv_aload_n hx hb dX9_question_23 rfl (lv_at hl 1 rfl) ?_
  refine lv_iload_n hx hb dX9_question_24 rfl (lv_at hl 0 rfl) ?_
  refine lv_if_eq (tgt := 32) hx hb dX9_question_25 (by decide) (fun c_51 => ?_) (fun c_51 => ?_)
  · -- 25: bI b2_16 eq
    have c_51 : b2_16 = false := bI_f (c_51)
    refine lv_aload_n hx hb dX9_question_32 rfl (lv_at hl 1 rfl) ?_
    refine h_get (C := RX9) (T := TX9) (N := 10) hx hb hts i_RX9 hown hI hm_40 rfl 5 (by decide) f_47 rfl rfl dX9_question_33 ?_
    refine k_Ri (va_runV (As := []) (rest := [.ref (ad 0)]) ⟨hx, hb, hml, hown, hts⟩ (c_X7_begin l G z ad M_35 (aa := a2_17) (bg := g2_18) (tk := t2_19) (vl := v2_20) hm_41) (cwV 0 hts (gV (lwg_of t_962 rfl) (lwg_of t_963 rfl) (lwg_of t_964 rfl) (lwg_of t_10 rfl) (lwg_of t_965 rfl)) rfl rfl rfl (by decide +kernel) ⟨Nat.le_of_ble_eq_true rfl, Nat.le_of_ble_eq_true rfl⟩) (hI.preV hm_41 rfl) rfl rfl hl.1 rfl (lv_room (Nat.le_of_ble_eq_true rfl)) dX9_question_36 ⟨Nat.le_of_ble_eq_true rfl, Nat.le_of_ble_eq_true rfl⟩) (fun _ h => h) (fun r_52 hp_53 => ?_)
    rw [hp_53]
    refine h_put (C := RX9) (T := TX9) (N := 10) hx hb hts i_RX9 tyX9 tyX9_ok nmX9 hown hI hm_40 rfl 9 (by decide) f_68 rfl rfl rfl rfl (Nat.le_of_ble_eq_true rfl) dX9_question_39 (fun M_54 H_55 locs_56 eM_57 hI => ?_)
    have hm_58 : M_54 0 = some (cStore ad qa qs (nI g2_18)) := by rw [eM_57]; exact va_up_self _ _ _
    have hm_59 : M_54 22 = some (cReader ad a2_17 g2_18 t2_19 v2_20) := by rw [eM_57, va_up_ne _ _ (by decide)]; exact hm_41
    have hm_60 : M_54 1 = some (cTape ad 0) := by rw [eM_57, va_up_ne _ _ (by decide)]; exact hm_38
    have hm_61 : M_54 2 = some (aI G 400 (nF tb)) := by rw [eM_57, va_up_ne _ _ (by decide)]; exact hm_42
    have hm_62 : M_54 qs = some (cQuestion ad qs qa2_21 uv2_22) := by rw [eM_57, va_up_ne _ _ (by omega)]; exact hm_43
    have hm_63 : M_54 (qs + 1) = some (aI G 6 (nF kn2_23)) := by rw [eM_57, va_up_ne _ _ (by omega)]; exact hm_44
    have hm_64 : M_54 (qs + 2) = some (aZ G 6 (bF nt2_24)) := by rw [eM_57, va_up_ne _ _ (by omega)]; exact hm_45
    have hm_65 : M_54 (qs + 3) = some (aI G 6 (nF pn2_25)) := by rw [eM_57, va_up_ne _ _ (by omega)]; exact hm_46
    have hm_66 : M_54 (qs + 4) = some (aI G 6 (nF av2_26)) := by rw [eM_57, va_up_ne _ _ (by omega)]; exact hm_47
    have hm_67 : M_54 (qs + 5) = some (aI G 24 (nF ro2_27)) := by rw [eM_57, va_up_ne _ _ (by omega)]; exact hm_48
    have hm_68 : M_54 (qs + 6) = some (aI G 24 (nF te2_28)) := by rw [eM_57, va_up_ne _ _ (by omega)]; exact hm_49
    have hF_69 : ∀ j : Nat, j ≠ 22 → j ≠ qs → j ≠ (qs + 1) → j ≠ (qs + 2) → j ≠ (qs + 3) → j ≠ (qs + 4) → j ≠ (qs + 5) → j ≠ (qs + 6) → j ≠ 1 → j ≠ 0 → M_54 j = M j := fun j q0 q1 q2 q3 q4 q5 q6 q7 q8 q9 => by rw [eM_57, va_up_ne _ _ q9]; exact hF_50 j q0 q1 q2 q3 q4 q5 q6 q7 q8
    refine lv_iload_n hx hb dX9_question_42 rfl (lv_at hl 0 rfl) ?_
    refine lv_if_ne (tgt := 56) hx hb dX9_question_43 (by decide) (fun c_70 => ?_) (fun c_70 => ?_)
    · -- 43: bI b2_16 ne
      have c_70 : b2_16 = true := bI_t (c_70)
      exact absurd (hbf.symm.trans (by assumption : b2_16 = true)) (by decide)
    · -- 43: bI b2_16 eq
      have c_70 : b2_16 = false := bI_f (c_70)
      refine w_imp (xq_of (M := M_54) ⟨a2_17, g2_18, t2_19, v2_20, qa2_21, uv2_22, kn2_23, nt2_24, pn2_25, av2_26, ro2_27, te2_28, (by rw [← hg1]; exact hm_58), hm_60, hm_59, hm_62, hm_63, hm_64, hm_65, hm_66, hm_67, hm_68, (fun j q0 q1 q2 q3 q4 q5 q6 q7 q8 q9 => hF_69 j q2 q3 q4 q5 q6 q7 q8 q9 q1 q0)⟩) ?_
      exact t_sA hx hb hst hown hts hI (k := 14) (is := 215) rfl tk_A ti_A (by rw [hml]; exact hl.1) dX9_question_46 dX9_question_49 dX9_question_50 dX9_question_52 dX9_question_55 hnt (Nat.le_of_ble_eq_true rfl) (Nat.le_of_ble_eq_true rfl) (Nat.le_of_ble_eq_true rfl) (Nat.le_of_ble_eq_true rfl) hlocks (Nat.le_of_ble_eq_true rfl) (Nat.le_of_ble_eq_true rfl)
  · -- 25: bI b2_16 ne
    have c_51 : b2_16 = true := bI_t (c_51)
    exact absurd (hbf.symm.trans (by assumption : b2_16 = true)) (by decide)
