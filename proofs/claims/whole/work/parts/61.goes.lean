/-- the model's word on the k-th of all a, b, c -/
def gP (vr : Nat) (lst : Nat → Nat) (tr nt : Nat → Bool) (te ap : Nat → Nat) (ao k : Nat) : Bool := opn vr lst 0 (k / 1600) && (opn vr lst 1 (k / 40 % 40) && (opn vr lst 2 (k % 40) && okM tr nt te ap (k / 1600) (k / 40 % 40) (k % 40) ao))
section GP
variable {vr : Nat} {lst : Nat → Nat} {tr nt : Nat → Bool} {te ap : Nat → Nat} {ao a b c cn x y k q : Nat} {P : Nat → Bool} {w : Int32}
theorem gP_at (hb : b < 40) (hc : c < 40) : gP vr lst tr nt te ap ao (a * 1600 + b * 40 + c) = (opn vr lst 0 a && (opn vr lst 1 b && (opn vr lst 2 c && okM tr nt te ap a b c ao))) := by
  rw [gP, show (a * 1600 + b * 40 + c) / 1600 = a by omega, show (a * 1600 + b * 40 + c) / 40 % 40 = b by omega, show (a * 1600 + b * 40 + c) % 40 = c by omega]
theorem gs_f (h : cn = cntB P (x + c)) (hp : P (x + c) = false) : cn = cntB P (x + (c + 1)) := by rw [← Nat.add_assoc, cntB_f hp]; exact h
theorem gs_t (h : cn = cntB P (x + c)) (hp : P (x + c) = true) : cn + 1 = cntB P (x + (c + 1)) := by rw [← Nat.add_assoc, cntB_t hp, h]
theorem no_f (h : ∀ k, k < x + c → P k = true → nI (cntB P k) ≠ w) (hp : P (x + c) = false) : ∀ k, k < x + (c + 1) → P k = true → nI (cntB P k) ≠ w := fun k hk h1 => by
  by_cases e : k = x + c
  · subst e; rw [hp] at h1; cases h1
  · exact h k (by omega) h1
theorem no_t (h : ∀ k, k < x + c → P k = true → nI (cntB P k) ≠ w) (hp : nI (cntB P (x + c)) ≠ w) : ∀ k, k < x + (c + 1) → P k = true → nI (cntB P k) ≠ w := fun k hk h1 => by
  by_cases e : k = x + c
  · subst e; exact hp
  · exact h k (by omega) h1
theorem sk_c (h : cn = cntB P x) (hxy : x ≤ y) (hp : ∀ k, x ≤ k → k < y → P k = false) : cn = cntB P y := by
  obtain ⟨m, rfl⟩ := Nat.exists_eq_add_of_le hxy
  clear hxy
  induction m with
  | zero => exact h
  | succ m ih => rw [← Nat.add_assoc, cntB_f (hp _ (by omega) (by omega))]; exact ih (fun k h1 h2 => hp k h1 (by omega))
theorem sk_n (h : ∀ k, k < x → P k = true → nI (cntB P k) ≠ w) (hp : ∀ k, x ≤ k → k < y → P k = false) : ∀ k, k < y → P k = true → nI (cntB P k) ≠ w := fun k hk h1 => by
  by_cases e : k < x
  · exact h k e h1
  · rw [hp k (by omega) hk] at h1; cases h1
theorem gP_a (h : opn vr lst 0 a = false) : ∀ k, a * 1600 ≤ k → k < (a + 1) * 1600 → gP vr lst tr nt te ap ao k = false := fun k h1 h2 => by rw [gP, show k / 1600 = a by omega, h, Bool.false_and]
theorem gP_b (h : opn vr lst 1 b = false) (hb : b < 40) : ∀ k, a * 1600 + b * 40 ≤ k → k < a * 1600 + (b + 1) * 40 → gP vr lst tr nt te ap ao k = false := fun k h1 h2 => by rw [gP, show k / 40 % 40 = b by omega, h, Bool.false_and, Bool.and_false]
theorem cntB_hit {N : Nat} (h : q < cntB P N) : ∃ k, k < N ∧ P k = true ∧ cntB P k = q := by
  induction N with
  | zero => exact absurd h (Nat.not_lt_zero q)
  | succ N ih =>
    cases hp : P N with
    | false => rw [cntB_f hp] at h; obtain ⟨k, a, b⟩ := ih h; exact ⟨k, by omega, b⟩
    | true =>
      rw [cntB_t hp] at h
      by_cases e : q = cntB P N
      · exact ⟨N, by omega, hp, e.symm⟩
      · obtain ⟨k, a, b⟩ := ih (by omega); exact ⟨k, by omega, b⟩
end GP

/-- X10_goes -/
abbrev rm_c_X10_goes : Room := { frames := 7, cells := 0, slots := 0, locals := 193 }
set_option maxHeartbeats 4000000 in
set_option maxRecDepth 100000 in
theorem c_X10_goes (l : Launch) (G : GG) (z : Nat) (ad : Nat → Nat) (M : Mem) {th : Nat} {on : Nat} {ao : Nat} {vr : Nat} {sn : Nat} {tp : Nat} {pt : Nat} {zs : Nat} {bg : Nat} {fa : Int32} {n : Nat} {kd : Nat → Nat} {fm : Nat → Int32} {to : Nat → Int32} {sz : Nat → Nat} {rl : Nat → Nat → Nat} {en : Nat → Nat → Nat} {mk : Nat → Nat} {mf : Nat → Int32} {mu : Nat → Int32} {mz : Nat → Nat} {rr : Nat → Nat} {ee : Nat → Nat} {lst : Nat → Nat} {ak : Nat → Int32} {ap : Nat → Nat} {pr : Nat → Int32} {pf : Nat → Int32} {kn : Nat → Nat} {ro : Nat → Nat} {te : Nat → Nat} {tr : Nat → Bool} {gv : Nat → Option Nat} {nt : Nat → Bool} {fo : Nat → Int32} {d : Int32} {w : Int32} (h60 : M 60 = some (cModel ad th n on ao vr sn tp pt zs bg fa)) (h65 : M 65 = some (aI G 120 (nF mk))) (h66 : M 66 = some (aI G 120 mf)) (h67 : M 67 = some (aI G 120 mu)) (h68 : M 68 = some (aI G 121 (nF mz))) (h69 : M 69 = some (aI G 726 (nF rr))) (h70 : M 70 = some (aI G 726 (nF ee))) (h71 : M 71 = some (aI G 40 (nF lst))) (h75 : M 75 = some (aI G 12 ak)) (h77 : M 77 = some (aI G 12 (nF ap))) (h78 : M 78 = some (aI G 48 pr)) (h79 : M 79 = some (aI G 48 pf)) (h82 : M 82 = some (aZ G 384000 (bF tr))) (h83 : M 83 = some (aI G 3 (oF gv))) (h76 : M 76 = some (aZ G 12 (bF nt))) (h84 : M 84 = some (aI G 3 fo)) (hw : LSw n kd sz rl en) (hmr : MRel n kd fm to sz rl en mk mf mu mz rr ee) (hao : 0 < ao ∧ ao ≤ 6) (hqp : ∀ i, i < ao → ap i ≤ 4 ∧ (ak i = nI (kn i) ∧ kn i < 6) ∧ ∀ p8, p8 < ap i → (pr (4 * i + p8) = nI (ro (i * 4 + p8)) ∧ ro (i * 4 + p8) < 6) ∧ te (i * 4 + p8) < 43 ∧ pf (4 * i + p8) = tmI (te (i * 4 + p8))) (hlst : ∀ u, u < 40 → lst u < 40) (hvr : vr < 8) : Met l yX10_goes wsX10_goes rm_c_X10_goes (Pr G z ad M [.ref (ad 60), .int d, .int w]) (Ni G z ad (fun (r : Int32) (M' : Mem) => ∃ tr2 : Nat → Bool, ∃ gv2 : Nat → Option Nat, ∃ fo2 : Nat → Int32, M' 82 = some (aZ G 384000 (bF tr2)) ∧ M' 83 = some (aI G 3 (oF gv2)) ∧ M' 84 = some (aI G 3 fo2) ∧ (∀ j : Nat, j ≠ 82 → j ≠ 83 → j ≠ 84 → M' j = M j) ∧ (((∀ v, v < 3 → gv2 v = none) ∧ ∀ x, x < ao * 64000 → (tr2 x = true ↔ ∃ i9, i9 < ao ∧ ∃ l9, l9 < n ∧ aQ kd fm to sz rl en lst ro te kn ap gv2 d i9 l9 x)) ∧ (r = nI (cntB (gP vr lst tr2 nt te ap ao) 64000) ∧ fo2 = fo ∧ (∀ k, k < 64000 → gP vr lst tr2 nt te ap ao k = true → nI (cntB (gP vr lst tr2 nt te ap ao) k) ≠ w) ∨ ∃ k, k < 64000 ∧ gP vr lst tr2 nt te ap ao k = true ∧ nI (cntB (gP vr lst tr2 nt te ap ao) k) = w ∧ fo2 0 = nI (k / 1600) ∧ fo2 1 = nI (k / 40 % 40) ∧ fo2 2 = nI (k % 40))))) 0 0 (fr z) := by
  refine Met.ofW (cc := cX10_goes) (maxL := 7) (ret := (some .int)) (by decide) rfl ?_
  intro p e s m args below meth c s₁ B hml hv
  obtain ⟨rfl, hv⟩ := hv
  have hI := Iv.entry hv
  have hx := B.exec
  have hb := B.bytes
  have hr := B.returns
  have hts := atoms_spec (ws := wsX10_goes) B.pre
  have hown : s.vm.findClass RX10 = some m.cls := findClass_of_methodNamed B.named
  have hlocks := B.notSynchronized
  have i_RX10 : ∀ w ∈ u_ws RX10 TX10 38, w ∈ wsX10_goes := fun w h => List.mem_cons_of_mem _ (iu_X10 w h)
  have f_226 := hts _ (List.mem_cons_of_mem _ (lwg_of t_1035 rfl))
  have f_89 := hts _ (List.mem_cons_of_mem _ (lwg_of t_1047 rfl))
  have hl := lv_entry ([.ref (ad 60), .int d, .int w]) (n := 7) (Nat.le_of_ble_eq_true rfl)
  rw [lg_entry_eq]
  generalize (lg_sl ([.ref (ad 60), .int d, .int w]) ++ List.replicate (7 - (lg_sl ([.ref (ad 60), .int d, .int w])).length) Slot.unset).toArray = ls at hl ⊢
  have hl : lv_has ls 7 [(0, .ref (ad 60)), (1, .int d), (2, .int w)] := hl
  refine w_q (fun Q hQ => ?_)
  have hw1 := hw.1
  have hapx : ∀ i, i < ao → ap i ≤ 4 := fun i h => (hqp i h).1
  have hpfx : ∀ i, i < ao → ∀ p9, p9 < ap i → te (i * 4 + p9) < 43 ∧ pf (4 * i + p9) = tmI (te (i * 4 + p9)) := fun i h p9 h9 => ((hqp i h).2.2 p9 h9).2
  refine lv_aload_n hx hb dX10_goes_0 rfl (lv_at hl 0 rfl) ?_
  refine h_get (C := RX10) (T := TX10) (N := 38) hx hb hts i_RX10 hown hI h60 rfl 22 (by decide) f_226 rfl rfl dX10_goes_1 ?_
  refine lv_if_ne (tgt := 9) hx hb dX10_goes_4 (by decide) (fun c_1 => ?_) (fun c_1 => ?_)
  · -- 4: nI ao ne
    have c_1 : ao ≠ 0 := by have h := mt (nI_eq (a := ao) (b := 0) (by omega) (by omega)).mpr c_1; omega
    refine lv_aload_n hx hb dX10_goes_9 rfl (lv_at hl 0 rfl) ?_
    refine lv_iload_n hx hb dX10_goes_10 rfl (lv_at hl 1 rfl) ?_
    refine k_Nv (va_runV (As := [.int d]) (rest := []) ⟨hx, hb, hml, hown, hts⟩ (c_X10_asks l G z ad M (th := th) (on := on) (ao := ao) (vr := vr) (sn := sn) (tp := tp) (pt := pt) (zs := zs) (bg := bg) (fa := fa) (n := n) (kd := kd) (fm := fm) (to := to) (sz := sz) (rl := rl) (en := en) (mk := mk) (mf := mf) (mu := mu) (mz := mz) (rr := rr) (ee := ee) (lst := lst) (ak := ak) (ap := ap) (pr := pr) (pf := pf) (kn := kn) (ro := ro) (te := te) (tr := tr) (gv := gv) (d := d) h60 h65 h66 h67 h68 h69 h70 h71 h75 h77 h78 h79 h82 h83 hw hmr (by omega) hqp hlst) (cwV 1 hts (gV (lwg_of t_1326 rfl) (lwg_of t_1328 rfl) (lwg_of ts_40 rfl) (lwg_of t_13 rfl) (lwg_of t_1329 rfl)) rfl rfl rfl (by decide +kernel) ⟨Nat.le_of_ble_eq_true rfl, Nat.le_of_ble_eq_true rfl⟩) (hI.preV h60 rfl) rfl rfl hl.1 rfl (lv_room (Nat.le_of_ble_eq_true rfl)) dX10_goes_11 ⟨Nat.le_of_ble_eq_true rfl, Nat.le_of_ble_eq_true rfl⟩) hI (fun M_4 H_5 locs_6 hp_3 hI => ?_)
    obtain ⟨tr2_11, gv2_12, hm_7, hm_8, hF_9, hP_10⟩ := hp_3
    have hm_13 : M_4 60 = some (cModel ad th n on ao vr sn tp pt zs bg fa) := by rw [hF_9 60 (by omega) (by omega)]; exact h60
    have hm_14 : M_4 65 = some (aI G 120 (nF mk)) := by rw [hF_9 65 (by omega) (by omega)]; exact h65
    have hm_15 : M_4 66 = some (aI G 120 mf) := by rw [hF_9 66 (by omega) (by omega)]; exact h66
    have hm_16 : M_4 67 = some (aI G 120 mu) := by rw [hF_9 67 (by omega) (by omega)]; exact h67
    have hm_17 : M_4 68 = some (aI G 121 (nF mz)) := by rw [hF_9 68 (by omega) (by omega)]; exact h68
    have hm_18 : M_4 69 = some (aI G 726 (nF rr)) := by rw [hF_9 69 (by omega) (by omega)]; exact h69
    have hm_19 : M_4 70 = some (aI G 726 (nF ee)) := by rw [hF_9 70 (by omega) (by omega)]; exact h70
    have hm_20 : M_4 71 = some (aI G 40 (nF lst)) := by rw [hF_9 71 (by omega) (by omega)]; exact h71
    have hm_21 : M_4 75 = some (aI G 12 ak) := by rw [hF_9 75 (by omega) (by omega)]; exact h75
    have hm_22 : M_4 77 = some (aI G 12 (nF ap)) := by rw [hF_9 77 (by omega) (by omega)]; exact h77
    have hm_23 : M_4 78 = some (aI G 48 pr) := by rw [hF_9 78 (by omega) (by omega)]; exact h78
    have hm_24 : M_4 79 = some (aI G 48 pf) := by rw [hF_9 79 (by omega) (by omega)]; exact h79
    have hm_25 : M_4 76 = some (aZ G 12 (bF nt)) := by rw [hF_9 76 (by omega) (by omega)]; exact h76
    have hm_26 : M_4 84 = some (aI G 3 fo) := by rw [hF_9 84 (by omega) (by omega)]; exact h84
    have hF_27 : ∀ j : Nat, j ≠ 82 → j ≠ 83 → M_4 j = M j := fun j q0 q1 => (hF_9 j q0 q1)
    refine lv_iconst (v := nI 0) hx hb dX10_goes_14 (by decide) ?_
    refine lv_istore_n (lv' := [(3, .int (nI 0)), (0, .ref (ad 60)), (1, .int d), (2, .int w)]) hx hb dX10_goes_15 rfl hl (by decide) rfl (fun ls hl => ?_)
    refine lv_iconst (v := nI 0) hx hb dX10_goes_16 (by decide) ?_
    refine lv_istore (lv' := [(4, .int (nI 0)), (3, .int (nI 0)), (0, .ref (ad 60)), (1, .int d), (2, .int w)]) hx hb dX10_goes_17 hl (by decide) rfl (fun ls hl => ?_)
    have lp19_28 : ∀ (fuel : Nat) (a : Nat) (cn : Nat) (Mx : Mem) (Hx : Heap) (locsx : List Loc) (ls : Array Slot), (40 - a) < fuel → (a ≤ 40) → (cn = cntB (gP vr lst tr2_11 nt te ap ao) (a * 1600)) → (∀ k9, k9 < a * 1600 → gP vr lst tr2_11 nt te ap ao k9 = true → nI (cntB (gP vr lst tr2_11 nt te ap ao) k9) ≠ w) → Iv G z ad Mx s Hx locsx → Mx 82 = some (aZ G 384000 (bF tr2_11)) → Mx 83 = some (aI G 3 (oF gv2_12)) → (∀ j : Nat, j ≠ 82 → j ≠ 83 → Mx j = M j) → lv_has ls 7 [(0, .ref (ad 60)), (1, .int d), (2, .int w), (3, .int (nI cn)), (4, .int (nI a))] → W p l e (headSpec wsX10_goes rm_c_X10_goes).room s m ([.ref (ad 60), .int d, .int w] : List Value).toArray below meth c Hx locsx 0 0 Q (F0 m 19 ls []) := by
      intro fuel
      induction fuel with
      | zero => intro a cn Mx Hx locsx ls hfu ha hcn hno hI hm_29 hm_30 hF_32 hl; exact absurd hfu (Nat.not_lt_zero _)
      | succ fuel ih_33 =>
        intro a cn Mx Hx locsx ls hfu ha hcn hno hI hm_29 hm_30 hF_32 hl
        have hm_34 : Mx 60 = some (cModel ad th n on ao vr sn tp pt zs bg fa) := by rw [hF_32 60 (by omega) (by omega)]; exact h60
        have hm_35 : Mx 65 = some (aI G 120 (nF mk)) := by rw [hF_32 65 (by omega) (by omega)]; exact h65
        have hm_36 : Mx 66 = some (aI G 120 mf) := by rw [hF_32 66 (by omega) (by omega)]; exact h66
        have hm_37 : Mx 67 = some (aI G 120 mu) := by rw [hF_32 67 (by omega) (by omega)]; exact h67
        have hm_38 : Mx 68 = some (aI G 121 (nF mz)) := by rw [hF_32 68 (by omega) (by omega)]; exact h68
        have hm_39 : Mx 69 = some (aI G 726 (nF rr)) := by rw [hF_32 69 (by omega) (by omega)]; exact h69
        have hm_40 : Mx 70 = some (aI G 726 (nF ee)) := by rw [hF_32 70 (by omega) (by omega)]; exact h70
        have hm_41 : Mx 71 = some (aI G 40 (nF lst)) := by rw [hF_32 71 (by omega) (by omega)]; exact h71
        have hm_42 : Mx 75 = some (aI G 12 ak) := by rw [hF_32 75 (by omega) (by omega)]; exact h75
        have hm_43 : Mx 77 = some (aI G 12 (nF ap)) := by rw [hF_32 77 (by omega) (by omega)]; exact h77
        have hm_44 : Mx 78 = some (aI G 48 pr) := by rw [hF_32 78 (by omega) (by omega)]; exact h78
        have hm_45 : Mx 79 = some (aI G 48 pf) := by rw [hF_32 79 (by omega) (by omega)]; exact h79
        have hm_46 : Mx 76 = some (aZ G 12 (bF nt)) := by rw [hF_32 76 (by omega) (by omega)]; exact h76
        have hm_47 : Mx 84 = some (aI G 3 fo) := by rw [hF_32 84 (by omega) (by omega)]; exact h84
        refine lv_iload hx hb dX10_goes_19 (lv_at hl 4 rfl) ?_
        refine lv_bipush (v := nI 40) hx hb dX10_goes_21 (by decide) ?_
        refine lv_icmp_ge (tgt := 144) hx hb dX10_goes_23 (by decide) (fun c_48 => ?_) (fun c_48 => ?_)
        · -- 23: nI a ge
          have c_48 : 40 ≤ a := (nI_leI (a := 40) (b := a) (by omega) (by omega)).mp (c_48)
          refine lv_iload_n hx hb dX10_goes_144 rfl (lv_at hl 3 rfl) ?_
          subst hQ
          exact e_Ni hx hb hr rfl hlocks hI ⟨tr2_11, gv2_12, fo, hm_29, hm_30, hm_47, (fun j q0 q1 q2 => hF_32 j q0 q1), ⟨hP_10, Or.inl ⟨by rw [hcn, show a * 1600 = 64000 by omega], rfl, fun k9 h9 => hno k9 (by omega)⟩⟩⟩ dX10_goes_145
        · -- 23: nI a lt
          have c_48 : a < 40 := by have h := mt (nI_leI (a := 40) (b := a) (by omega) (by omega)).mpr c_48; omega
          refine lv_iconst (v := nI 0) hx hb dX10_goes_26 (by decide) ?_
          refine lv_istore (lv' := [(5, .int (nI 0)), (0, .ref (ad 60)), (1, .int d), (2, .int w), (3, .int (nI cn)), (4, .int (nI a))]) hx hb dX10_goes_27 hl (by decide) rfl (fun ls hl => ?_)
          have lp29_49 : ∀ (fuel : Nat) (b : Nat) (cb : Nat) (Mx : Mem) (Hx : Heap) (locsx : List Loc) (ls : Array Slot), (40 - b) < fuel → (b ≤ 40) → (cb = cntB (gP vr lst tr2_11 nt te ap ao) (a * 1600 + b * 40)) → (∀ k9, k9 < a * 1600 + b * 40 → gP vr lst tr2_11 nt te ap ao k9 = true → nI (cntB (gP vr lst tr2_11 nt te ap ao) k9) ≠ w) → Iv G z ad Mx s Hx locsx → Mx 82 = some (aZ G 384000 (bF tr2_11)) → Mx 83 = some (aI G 3 (oF gv2_12)) → (∀ j : Nat, j ≠ 82 → j ≠ 83 → Mx j = M j) → lv_has ls 7 [(0, .ref (ad 60)), (1, .int d), (2, .int w), (3, .int (nI cb)), (4, .int (nI a)), (5, .int (nI b))] → W p l e (headSpec wsX10_goes rm_c_X10_goes).room s m ([.ref (ad 60), .int d, .int w] : List Value).toArray below meth c Hx locsx 0 0 Q (F0 m 29 ls []) := by
            intro fuel
            induction fuel with
            | zero => intro b cb Mx Hx locsx ls hfu hb4 hcb hnb hI hm_50 hm_51 hF_53 hl; exact absurd hfu (Nat.not_lt_zero _)
            | succ fuel ih_54 =>
              intro b cb Mx Hx locsx ls hfu hb4 hcb hnb hI hm_50 hm_51 hF_53 hl
              have hm_55 : Mx 60 = some (cModel ad th n on ao vr sn tp pt zs bg fa) := by rw [hF_53 60 (by omega) (by omega)]; exact h60
              have hm_56 : Mx 65 = some (aI G 120 (nF mk)) := by rw [hF_53 65 (by omega) (by omega)]; exact h65
              have hm_57 : Mx 66 = some (aI G 120 mf) := by rw [hF_53 66 (by omega) (by omega)]; exact h66
              have hm_58 : Mx 67 = some (aI G 120 mu) := by rw [hF_53 67 (by omega) (by omega)]; exact h67
              have hm_59 : Mx 68 = some (aI G 121 (nF mz)) := by rw [hF_53 68 (by omega) (by omega)]; exact h68
              have hm_60 : Mx 69 = some (aI G 726 (nF rr)) := by rw [hF_53 69 (by omega) (by omega)]; exact h69
              have hm_61 : Mx 70 = some (aI G 726 (nF ee)) := by rw [hF_53 70 (by omega) (by omega)]; exact h70
              have hm_62 : Mx 71 = some (aI G 40 (nF lst)) := by rw [hF_53 71 (by omega) (by omega)]; exact h71
              have hm_63 : Mx 75 = some (aI G 12 ak) := by rw [hF_53 75 (by omega) (by omega)]; exact h75
              have hm_64 : Mx 77 = some (aI G 12 (nF ap)) := by rw [hF_53 77 (by omega) (by omega)]; exact h77
              have hm_65 : Mx 78 = some (aI G 48 pr) := by rw [hF_53 78 (by omega) (by omega)]; exact h78
              have hm_66 : Mx 79 = some (aI G 48 pf) := by rw [hF_53 79 (by omega) (by omega)]; exact h79
              have hm_67 : Mx 76 = some (aZ G 12 (bF nt)) := by rw [hF_53 76 (by omega) (by omega)]; exact h76
              have hm_68 : Mx 84 = some (aI G 3 fo) := by rw [hF_53 84 (by omega) (by omega)]; exact h84
              refine lv_iload hx hb dX10_goes_29 (lv_at hl 5 rfl) ?_
              refine lv_bipush (v := nI 40) hx hb dX10_goes_31 (by decide) ?_
              refine lv_icmp_ge (tgt := 138) hx hb dX10_goes_33 (by decide) (fun c_69 => ?_) (fun c_69 => ?_)
              · -- 33: nI b ge
                have c_69 : 40 ≤ b := (nI_leI (a := 40) (b := b) (by omega) (by omega)).mp (c_69)
                refine lv_iinc (v := nI (a + 1)) (lv' := [(4, .int (nI (a + 1))), (0, .ref (ad 60)), (1, .int d), (2, .int w), (3, .int (nI cb)), (5, .int (nI b))]) hx hb dX10_goes_138 hl (k := 4) rfl (nI_add a 1) (by decide) rfl (fun ls hl => ?_)
                refine lv_goto (tgt := 19) hx hb dX10_goes_141 (by decide) ?_
                exact ih_33 (a + 1) cb Mx Hx locsx ls (by omega) (by omega) (by rw [hcb, show a * 1600 + b * 40 = (a + 1) * 1600 by omega]) (by rw [show (a + 1) * 1600 = a * 1600 + b * 40 by omega]; exact hnb) hI hm_50 hm_51 (fun j q0 q1 => hF_53 j q0 q1) (lv_sub hl [1, 2, 3, 4, 0] rfl)
              · -- 33: nI b lt
                have c_69 : b < 40 := by have h := mt (nI_leI (a := 40) (b := b) (by omega) (by omega)).mpr c_69; omega
                refine lv_aload_n hx hb dX10_goes_36 rfl (lv_at hl 0 rfl) ?_
                refine lv_iconst (v := nI 0) hx hb dX10_goes_37 (by decide) ?_
                refine lv_iload hx hb dX10_goes_38 (lv_at hl 4 rfl) ?_
                refine k_Ri (va_runV (As := [.int (nI 0), .int (nI a)]) (rest := []) ⟨hx, hb, hml, hown, hts⟩ (c_X10_isOpen l G z ad Mx (th := th) (ln := n) (on := on) (ao := ao) (vr := vr) (sn := sn) (tp := tp) (pt := pt) (zs := zs) (bg := bg) (fa := fa) (lst := lst) (v := 0) (t := a) hm_55 hm_62 (by omega) (by omega) (by omega) hlst) (cwV 2 hts (gV (lwg_of t_1338 rfl) (lwg_of t_1340 rfl) (lwg_of ts_42 rfl) (lwg_of t_13 rfl) (lwg_of t_1341 rfl)) rfl rfl rfl (by decide +kernel) ⟨Nat.le_of_ble_eq_true rfl, Nat.le_of_ble_eq_true rfl⟩) (hI.preV hm_55 rfl) rfl rfl hl.1 rfl (lv_room (Nat.le_of_ble_eq_true rfl)) dX10_goes_40 ⟨Nat.le_of_ble_eq_true rfl, Nat.le_of_ble_eq_true rfl⟩) (fun _ h => h) (fun r_70 hp_71 => ?_)
                rw [hp_71]
                refine lv_if_eq (tgt := 138) hx hb dX10_goes_43 (by decide) (fun c_72 => ?_) (fun c_72 => ?_)
                · -- 43: bI (opn vr lst 0 a) eq
                  have c_72 : opn vr lst 0 a = false := bI_f (c_72)
                  refine lv_iinc (v := nI (a + 1)) (lv' := [(4, .int (nI (a + 1))), (0, .ref (ad 60)), (1, .int d), (2, .int w), (3, .int (nI cb)), (5, .int (nI b))]) hx hb dX10_goes_138 hl (k := 4) rfl (nI_add a 1) (by decide) rfl (fun ls hl => ?_)
                  refine lv_goto (tgt := 19) hx hb dX10_goes_141 (by decide) ?_
                  exact ih_33 (a + 1) cb Mx Hx locsx ls (by omega) (by omega) (sk_c hcb (by omega) (fun k9 h9 h8 => gP_a (by assumption) k9 (by omega) h8)) (sk_n hnb (fun k9 h9 h8 => gP_a (by assumption) k9 (by omega) h8)) hI hm_50 hm_51 (fun j q0 q1 => hF_53 j q0 q1) (lv_sub hl [1, 2, 3, 4, 0] rfl)
                · -- 43: bI (opn vr lst 0 a) ne
                  have c_72 : opn vr lst 0 a = true := bI_t (c_72)
                  refine lv_iconst (v := nI 0) hx hb dX10_goes_46 (by decide) ?_
                  refine lv_istore (lv' := [(6, .int (nI 0)), (0, .ref (ad 60)), (1, .int d), (2, .int w), (3, .int (nI cb)), (4, .int (nI a)), (5, .int (nI b))]) hx hb dX10_goes_47 hl (by decide) rfl (fun ls hl => ?_)
                  have lp49_73 : ∀ (fuel : Nat) (c9 : Nat) (cc9 : Nat) (Mx : Mem) (Hx : Heap) (locsx : List Loc) (ls : Array Slot), (40 - c9) < fuel → (c9 ≤ 40) → (cc9 = cntB (gP vr lst tr2_11 nt te ap ao) (a * 1600 + b * 40 + c9)) → (∀ k9, k9 < a * 1600 + b * 40 + c9 → gP vr lst tr2_11 nt te ap ao k9 = true → nI (cntB (gP vr lst tr2_11 nt te ap ao) k9) ≠ w) → Iv G z ad Mx s Hx locsx → Mx 82 = some (aZ G 384000 (bF tr2_11)) → Mx 83 = some (aI G 3 (oF gv2_12)) → (∀ j : Nat, j ≠ 82 → j ≠ 83 → Mx j = M j) → lv_has ls 7 [(0, .ref (ad 60)), (1, .int d), (2, .int w), (3, .int (nI cc9)), (4, .int (nI a)), (5, .int (nI b)), (6, .int (nI c9))] → W p l e (headSpec wsX10_goes rm_c_X10_goes).room s m ([.ref (ad 60), .int d, .int w] : List Value).toArray below meth c Hx locsx 0 0 Q (F0 m 49 ls []) := by
                    intro fuel
                    induction fuel with
                    | zero => intro c9 cc9 Mx Hx locsx ls hfu hc4 hcc hnc hI hm_74 hm_75 hF_77 hl; exact absurd hfu (Nat.not_lt_zero _)
                    | succ fuel ih_78 =>
                      intro c9 cc9 Mx Hx locsx ls hfu hc4 hcc hnc hI hm_74 hm_75 hF_77 hl
                      have hm_79 : Mx 60 = some (cModel ad th n on ao vr sn tp pt zs bg fa) := by rw [hF_77 60 (by omega) (by omega)]; exact h60
                      have hm_80 : Mx 65 = some (aI G 120 (nF mk)) := by rw [hF_77 65 (by omega) (by omega)]; exact h65
                      have hm_81 : Mx 66 = some (aI G 120 mf) := by rw [hF_77 66 (by omega) (by omega)]; exact h66
                      have hm_82 : Mx 67 = some (aI G 120 mu) := by rw [hF_77 67 (by omega) (by omega)]; exact h67
                      have hm_83 : Mx 68 = some (aI G 121 (nF mz)) := by rw [hF_77 68 (by omega) (by omega)]; exact h68
                      have hm_84 : Mx 69 = some (aI G 726 (nF rr)) := by rw [hF_77 69 (by omega) (by omega)]; exact h69
                      have hm_85 : Mx 70 = some (aI G 726 (nF ee)) := by rw [hF_77 70 (by omega) (by omega)]; exact h70
                      have hm_86 : Mx 71 = some (aI G 40 (nF lst)) := by rw [hF_77 71 (by omega) (by omega)]; exact h71
                      have hm_87 : Mx 75 = some (aI G 12 ak) := by rw [hF_77 75 (by omega) (by omega)]; exact h75
                      have hm_88 : Mx 77 = some (aI G 12 (nF ap)) := by rw [hF_77 77 (by omega) (by omega)]; exact h77
                      have hm_89 : Mx 78 = some (aI G 48 pr) := by rw [hF_77 78 (by omega) (by omega)]; exact h78
                      have hm_90 : Mx 79 = some (aI G 48 pf) := by rw [hF_77 79 (by omega) (by omega)]; exact h79
                      have hm_91 : Mx 76 = some (aZ G 12 (bF nt)) := by rw [hF_77 76 (by omega) (by omega)]; exact h76
                      have hm_92 : Mx 84 = some (aI G 3 fo) := by rw [hF_77 84 (by omega) (by omega)]; exact h84
                      refine lv_iload hx hb dX10_goes_49 (lv_at hl 6 rfl) ?_
                      refine lv_bipush (v := nI 40) hx hb dX10_goes_51 (by decide) ?_
                      refine lv_icmp_ge (tgt := 132) hx hb dX10_goes_53 (by decide) (fun c_93 => ?_) (fun c_93 => ?_)
                      · -- 53: nI c9 ge
                        have c_93 : 40 ≤ c9 := (nI_leI (a := 40) (b := c9) (by omega) (by omega)).mp (c_93)
                        refine lv_iinc (v := nI (b + 1)) (lv' := [(5, .int (nI (b + 1))), (0, .ref (ad 60)), (1, .int d), (2, .int w), (3, .int (nI cc9)), (4, .int (nI a)), (6, .int (nI c9))]) hx hb dX10_goes_132 hl (k := 5) rfl (nI_add b 1) (by decide) rfl (fun ls hl => ?_)
                        refine lv_goto (tgt := 29) hx hb dX10_goes_135 (by decide) ?_
                        exact ih_54 (b + 1) cc9 Mx Hx locsx ls (by omega) (by omega) (by rw [hcc, show a * 1600 + b * 40 + c9 = a * 1600 + (b + 1) * 40 by omega]) (by rw [show a * 1600 + (b + 1) * 40 = a * 1600 + b * 40 + c9 by omega]; exact hnc) hI hm_74 hm_75 (fun j q0 q1 => hF_77 j q0 q1) (lv_sub hl [1, 2, 3, 4, 5, 0] rfl)
                      · -- 53: nI c9 lt
                        have c_93 : c9 < 40 := by have h := mt (nI_leI (a := 40) (b := c9) (by omega) (by omega)).mpr c_93; omega
                        refine lv_aload_n hx hb dX10_goes_56 rfl (lv_at hl 0 rfl) ?_
                        refine lv_iconst (v := nI 1) hx hb dX10_goes_57 (by decide) ?_
                        refine lv_iload hx hb dX10_goes_58 (lv_at hl 5 rfl) ?_
                        refine k_Ri (va_runV (As := [.int (nI 1), .int (nI b)]) (rest := []) ⟨hx, hb, hml, hown, hts⟩ (c_X10_isOpen l G z ad Mx (th := th) (ln := n) (on := on) (ao := ao) (vr := vr) (sn := sn) (tp := tp) (pt := pt) (zs := zs) (bg := bg) (fa := fa) (lst := lst) (v := 1) (t := b) hm_79 hm_86 (by omega) (by omega) (by omega) hlst) (cwV 2 hts (gV (lwg_of t_1338 rfl) (lwg_of t_1340 rfl) (lwg_of ts_42 rfl) (lwg_of t_13 rfl) (lwg_of t_1341 rfl)) rfl rfl rfl (by decide +kernel) ⟨Nat.le_of_ble_eq_true rfl, Nat.le_of_ble_eq_true rfl⟩) (hI.preV hm_79 rfl) rfl rfl hl.1 rfl (lv_room (Nat.le_of_ble_eq_true rfl)) dX10_goes_60 ⟨Nat.le_of_ble_eq_true rfl, Nat.le_of_ble_eq_true rfl⟩) (fun _ h => h) (fun r_94 hp_95 => ?_)
                        rw [hp_95]
                        refine lv_if_eq (tgt := 132) hx hb dX10_goes_63 (by decide) (fun c_96 => ?_) (fun c_96 => ?_)
                        · -- 63: bI (opn vr lst 1 b) eq
                          have c_96 : opn vr lst 1 b = false := bI_f (c_96)
                          refine lv_iinc (v := nI (b + 1)) (lv' := [(5, .int (nI (b + 1))), (0, .ref (ad 60)), (1, .int d), (2, .int w), (3, .int (nI cc9)), (4, .int (nI a)), (6, .int (nI c9))]) hx hb dX10_goes_132 hl (k := 5) rfl (nI_add b 1) (by decide) rfl (fun ls hl => ?_)
                          refine lv_goto (tgt := 29) hx hb dX10_goes_135 (by decide) ?_
                          exact ih_54 (b + 1) cc9 Mx Hx locsx ls (by omega) (by omega) (sk_c hcc (by omega) (fun k9 h9 h8 => gP_b (by assumption) (by omega) k9 (by omega) h8)) (sk_n hnc (fun k9 h9 h8 => gP_b (by assumption) (by omega) k9 (by omega) h8)) hI hm_74 hm_75 (fun j q0 q1 => hF_77 j q0 q1) (lv_sub hl [1, 2, 3, 4, 5, 0] rfl)
                        · -- 63: bI (opn vr lst 1 b) ne
                          have c_96 : opn vr lst 1 b = true := bI_t (c_96)
                          refine lv_aload_n hx hb dX10_goes_66 rfl (lv_at hl 0 rfl) ?_
                          refine lv_iconst (v := nI 2) hx hb dX10_goes_67 (by decide) ?_
                          refine lv_iload hx hb dX10_goes_68 (lv_at hl 6 rfl) ?_
                          refine k_Ri (va_runV (As := [.int (nI 2), .int (nI c9)]) (rest := []) ⟨hx, hb, hml, hown, hts⟩ (c_X10_isOpen l G z ad Mx (th := th) (ln := n) (on := on) (ao := ao) (vr := vr) (sn := sn) (tp := tp) (pt := pt) (zs := zs) (bg := bg) (fa := fa) (lst := lst) (v := 2) (t := c9) hm_79 hm_86 (by omega) (by omega) (by omega) hlst) (cwV 2 hts (gV (lwg_of t_1338 rfl) (lwg_of t_1340 rfl) (lwg_of ts_42 rfl) (lwg_of t_13 rfl) (lwg_of t_1341 rfl)) rfl rfl rfl (by decide +kernel) ⟨Nat.le_of_ble_eq_true rfl, Nat.le_of_ble_eq_true rfl⟩) (hI.preV hm_79 rfl) rfl rfl hl.1 rfl (lv_room (Nat.le_of_ble_eq_true rfl)) dX10_goes_70 ⟨Nat.le_of_ble_eq_true rfl, Nat.le_of_ble_eq_true rfl⟩) (fun _ h => h) (fun r_97 hp_98 => ?_)
                          rw [hp_98]
                          refine lv_if_eq (tgt := 126) hx hb dX10_goes_73 (by decide) (fun c_99 => ?_) (fun c_99 => ?_)
                          · -- 73: bI (opn vr lst 2 c9) eq
                            have c_99 : opn vr lst 2 c9 = false := bI_f (c_99)
                            refine lv_iinc (v := nI (c9 + 1)) (lv' := [(6, .int (nI (c9 + 1))), (0, .ref (ad 60)), (1, .int d), (2, .int w), (3, .int (nI cc9)), (4, .int (nI a)), (5, .int (nI b))]) hx hb dX10_goes_126 hl (k := 6) rfl (nI_add c9 1) (by decide) rfl (fun ls hl => ?_)
                            refine lv_goto (tgt := 49) hx hb dX10_goes_129 (by decide) ?_
                            exact ih_78 (c9 + 1) cc9 Mx Hx locsx ls (by omega) (by omega) (gs_f hcc ((gP_at (by omega) (by omega)).trans (by rw [show opn vr lst 2 c9 = false by assumption, Bool.false_and, Bool.and_false, Bool.and_false]))) (no_f hnc ((gP_at (by omega) (by omega)).trans (by rw [show opn vr lst 2 c9 = false by assumption, Bool.false_and, Bool.and_false, Bool.and_false]))) hI hm_74 hm_75 (fun j q0 q1 => hF_77 j q0 q1) (lv_sub hl [1, 2, 3, 4, 5, 6, 0] rfl)
                          · -- 73: bI (opn vr lst 2 c9) ne
                            have c_99 : opn vr lst 2 c9 = true := bI_t (c_99)
                            refine lv_aload_n hx hb dX10_goes_76 rfl (lv_at hl 0 rfl) ?_
                            refine lv_iload hx hb dX10_goes_77 (lv_at hl 4 rfl) ?_
                            refine lv_iload hx hb dX10_goes_79 (lv_at hl 5 rfl) ?_
                            refine lv_iload hx hb dX10_goes_81 (lv_at hl 6 rfl) ?_
                            refine k_Ri (va_runV (As := [.int (nI a), .int (nI b), .int (nI c9)]) (rest := []) ⟨hx, hb, hml, hown, hts⟩ (c_X10_isAnswer l G z ad Mx (th := th) (ln := n) (on := on) (ao := ao) (vr := vr) (sn := sn) (tp := tp) (pt := pt) (zs := zs) (bg := bg) (fa := fa) (ap := ap) (pf := pf) (te := te) (tr := tr2_11) (nt := nt) (a := a) (b := b) (c0 := c9) hm_79 hm_88 hm_90 hm_74 hm_91 (by omega) (by omega) (by omega) (by omega) hapx hpfx) (cwV 3 hts (gV (lwg_of t_1342 rfl) (lwg_of t_1344 rfl) (lwg_of ts_43 rfl) (lwg_of t_13 rfl) (lwg_of t_1345 rfl)) rfl rfl rfl (by decide +kernel) ⟨Nat.le_of_ble_eq_true rfl, Nat.le_of_ble_eq_true rfl⟩) (hI.preV hm_79 rfl) rfl rfl hl.1 rfl (lv_room (Nat.le_of_ble_eq_true rfl)) dX10_goes_83 ⟨Nat.le_of_ble_eq_true rfl, Nat.le_of_ble_eq_true rfl⟩) (fun _ h => h) (fun r_100 hp_101 => ?_)
                            rw [hp_101]
                            refine lv_if_ne (tgt := 92) hx hb dX10_goes_86 (by decide) (fun c_102 => ?_) (fun c_102 => ?_)
                            · -- 86: bI (okM tr2_11 nt te ap a b c9 ao) ne
                              have c_102 : okM tr2_11 nt te ap a b c9 ao = true := bI_t (c_102)
                              refine lv_iload_n hx hb dX10_goes_92 rfl (lv_at hl 3 rfl) ?_
                              refine lv_iload_n hx hb dX10_goes_93 rfl (lv_at hl 2 rfl) ?_
                              refine lv_icmp_ne (tgt := 123) hx hb dX10_goes_94 (by decide) (fun c_103 => ?_) (fun c_103 => ?_)
                              · -- 94: nI cc9 ne
                                refine lv_iinc (v := nI (cc9 + 1)) (lv' := [(3, .int (nI (cc9 + 1))), (0, .ref (ad 60)), (1, .int d), (2, .int w), (4, .int (nI a)), (5, .int (nI b)), (6, .int (nI c9))]) hx hb dX10_goes_123 hl (k := 3) rfl (nI_add cc9 1) (by decide) rfl (fun ls hl => ?_)
                                refine lv_iinc (v := nI (c9 + 1)) (lv' := [(6, .int (nI (c9 + 1))), (3, .int (nI (cc9 + 1))), (0, .ref (ad 60)), (1, .int d), (2, .int w), (4, .int (nI a)), (5, .int (nI b))]) hx hb dX10_goes_126 hl (k := 6) rfl (nI_add c9 1) (by decide) rfl (fun ls hl => ?_)
                                refine lv_goto (tgt := 49) hx hb dX10_goes_129 (by decide) ?_
                                exact ih_78 (c9 + 1) (cc9 + 1) Mx Hx locsx ls (by omega) (by omega) (gs_t hcc ((gP_at (by omega) (by omega)).trans (by rw [show opn vr lst 0 a = true by assumption, show opn vr lst 1 b = true by assumption, show opn vr lst 2 c9 = true by assumption, show okM tr2_11 nt te ap a b c9 ao = true by assumption]; rfl))) (no_t hnc (by rw [← hcc]; assumption)) hI hm_74 hm_75 (fun j q0 q1 => hF_77 j q0 q1) (lv_sub hl [2, 3, 4, 1, 5, 6, 0] rfl)
                              · -- 94: nI cc9 eq
                                refine lv_aload_n hx hb dX10_goes_97 rfl (lv_at hl 0 rfl) ?_
                                refine h_get (C := RX10) (T := TX10) (N := 38) hx hb hts i_RX10 hown hI hm_79 rfl 34 (by decide) f_89 rfl rfl dX10_goes_98 ?_
                                refine lv_iconst (v := nI 0) hx hb dX10_goes_101 (by decide) ?_
                                refine lv_iload hx hb dX10_goes_102 (lv_at hl 4 rfl) ?_
                                refine h_iast (i := 0) (x := nI a) hx hb hI hm_92 (by omega) (by decide) dX10_goes_104 (fun M_104 H_105 locs_106 eM_107 hI => ?_)
                                have hm_108 : M_104 60 = some (cModel ad th n on ao vr sn tp pt zs bg fa) := by rw [eM_107, va_up_ne _ _ (by decide)]; exact hm_79
                                have hm_109 : M_104 65 = some (aI G 120 (nF mk)) := by rw [eM_107, va_up_ne _ _ (by decide)]; exact hm_80
                                have hm_110 : M_104 66 = some (aI G 120 mf) := by rw [eM_107, va_up_ne _ _ (by decide)]; exact hm_81
                                have hm_111 : M_104 67 = some (aI G 120 mu) := by rw [eM_107, va_up_ne _ _ (by decide)]; exact hm_82
                                have hm_112 : M_104 68 = some (aI G 121 (nF mz)) := by rw [eM_107, va_up_ne _ _ (by decide)]; exact hm_83
                                have hm_113 : M_104 69 = some (aI G 726 (nF rr)) := by rw [eM_107, va_up_ne _ _ (by decide)]; exact hm_84
                                have hm_114 : M_104 70 = some (aI G 726 (nF ee)) := by rw [eM_107, va_up_ne _ _ (by decide)]; exact hm_85
                                have hm_115 : M_104 71 = some (aI G 40 (nF lst)) := by rw [eM_107, va_up_ne _ _ (by decide)]; exact hm_86
                                have hm_116 : M_104 75 = some (aI G 12 ak) := by rw [eM_107, va_up_ne _ _ (by decide)]; exact hm_87
                                have hm_117 : M_104 77 = some (aI G 12 (nF ap)) := by rw [eM_107, va_up_ne _ _ (by decide)]; exact hm_88
                                have hm_118 : M_104 78 = some (aI G 48 pr) := by rw [eM_107, va_up_ne _ _ (by decide)]; exact hm_89
                                have hm_119 : M_104 79 = some (aI G 48 pf) := by rw [eM_107, va_up_ne _ _ (by decide)]; exact hm_90
                                have hm_120 : M_104 76 = some (aZ G 12 (bF nt)) := by rw [eM_107, va_up_ne _ _ (by decide)]; exact hm_91
                                have hm_121 : M_104 84 = some (aI G 3 (upd fo 0 (nI a))) := by rw [eM_107]; exact va_up_self _ _ _
                                have hm_122 : M_104 82 = some (aZ G 384000 (bF tr2_11)) := by rw [eM_107, va_up_ne _ _ (by decide)]; exact hm_74
                                have hm_123 : M_104 83 = some (aI G 3 (oF gv2_12)) := by rw [eM_107, va_up_ne _ _ (by decide)]; exact hm_75
                                have hF_124 : ∀ j : Nat, j ≠ 82 → j ≠ 83 → j ≠ 84 → M_104 j = M j := fun j q0 q1 q2 => by rw [eM_107, va_up_ne _ _ q2]; exact hF_77 j q0 q1
                                refine lv_aload_n hx hb dX10_goes_105 rfl (lv_at hl 0 rfl) ?_
                                refine h_get (C := RX10) (T := TX10) (N := 38) hx hb hts i_RX10 hown hI hm_108 rfl 34 (by decide) f_89 rfl rfl dX10_goes_106 ?_
                                refine lv_iconst (v := nI 1) hx hb dX10_goes_109 (by decide) ?_
                                refine lv_iload hx hb dX10_goes_110 (lv_at hl 5 rfl) ?_
                                refine h_iast (i := 1) (x := nI b) hx hb hI hm_121 (by omega) (by decide) dX10_goes_112 (fun M_125 H_126 locs_127 eM_128 hI => ?_)
                                have hm_129 : M_125 60 = some (cModel ad th n on ao vr sn tp pt zs bg fa) := by rw [eM_128, va_up_ne _ _ (by decide)]; exact hm_108
                                have hm_130 : M_125 65 = some (aI G 120 (nF mk)) := by rw [eM_128, va_up_ne _ _ (by decide)]; exact hm_109
                                have hm_131 : M_125 66 = some (aI G 120 mf) := by rw [eM_128, va_up_ne _ _ (by decide)]; exact hm_110
                                have hm_132 : M_125 67 = some (aI G 120 mu) := by rw [eM_128, va_up_ne _ _ (by decide)]; exact hm_111
                                have hm_133 : M_125 68 = some (aI G 121 (nF mz)) := by rw [eM_128, va_up_ne _ _ (by decide)]; exact hm_112
                                have hm_134 : M_125 69 = some (aI G 726 (nF rr)) := by rw [eM_128, va_up_ne _ _ (by decide)]; exact hm_113
                                have hm_135 : M_125 70 = some (aI G 726 (nF ee)) := by rw [eM_128, va_up_ne _ _ (by decide)]; exact hm_114
                                have hm_136 : M_125 71 = some (aI G 40 (nF lst)) := by rw [eM_128, va_up_ne _ _ (by decide)]; exact hm_115
                                have hm_137 : M_125 75 = some (aI G 12 ak) := by rw [eM_128, va_up_ne _ _ (by decide)]; exact hm_116
                                have hm_138 : M_125 77 = some (aI G 12 (nF ap)) := by rw [eM_128, va_up_ne _ _ (by decide)]; exact hm_117
                                have hm_139 : M_125 78 = some (aI G 48 pr) := by rw [eM_128, va_up_ne _ _ (by decide)]; exact hm_118
                                have hm_140 : M_125 79 = some (aI G 48 pf) := by rw [eM_128, va_up_ne _ _ (by decide)]; exact hm_119
                                have hm_141 : M_125 76 = some (aZ G 12 (bF nt)) := by rw [eM_128, va_up_ne _ _ (by decide)]; exact hm_120
                                have hm_142 : M_125 84 = some (aI G 3 (upd (upd fo 0 (nI a)) 1 (nI b))) := by rw [eM_128]; exact va_up_self _ _ _
                                have hm_143 : M_125 82 = some (aZ G 384000 (bF tr2_11)) := by rw [eM_128, va_up_ne _ _ (by decide)]; exact hm_122
                                have hm_144 : M_125 83 = some (aI G 3 (oF gv2_12)) := by rw [eM_128, va_up_ne _ _ (by decide)]; exact hm_123
                                have hF_145 : ∀ j : Nat, j ≠ 82 → j ≠ 83 → j ≠ 84 → M_125 j = M j := fun j q0 q1 q2 => by rw [eM_128, va_up_ne _ _ q2]; exact hF_124 j q0 q1 q2
                                refine lv_aload_n hx hb dX10_goes_113 rfl (lv_at hl 0 rfl) ?_
                                refine h_get (C := RX10) (T := TX10) (N := 38) hx hb hts i_RX10 hown hI hm_129 rfl 34 (by decide) f_89 rfl rfl dX10_goes_114 ?_
                                refine lv_iconst (v := nI 2) hx hb dX10_goes_117 (by decide) ?_
                                refine lv_iload hx hb dX10_goes_118 (lv_at hl 6 rfl) ?_
                                refine h_iast (i := 2) (x := nI c9) hx hb hI hm_142 (by omega) (by decide) dX10_goes_120 (fun M_146 H_147 locs_148 eM_149 hI => ?_)
                                have hm_150 : M_146 60 = some (cModel ad th n on ao vr sn tp pt zs bg fa) := by rw [eM_149, va_up_ne _ _ (by decide)]; exact hm_129
                                have hm_151 : M_146 65 = some (aI G 120 (nF mk)) := by rw [eM_149, va_up_ne _ _ (by decide)]; exact hm_130
                                have hm_152 : M_146 66 = some (aI G 120 mf) := by rw [eM_149, va_up_ne _ _ (by decide)]; exact hm_131
                                have hm_153 : M_146 67 = some (aI G 120 mu) := by rw [eM_149, va_up_ne _ _ (by decide)]; exact hm_132
                                have hm_154 : M_146 68 = some (aI G 121 (nF mz)) := by rw [eM_149, va_up_ne _ _ (by decide)]; exact hm_133
                                have hm_155 : M_146 69 = some (aI G 726 (nF rr)) := by rw [eM_149, va_up_ne _ _ (by decide)]; exact hm_134
                                have hm_156 : M_146 70 = some (aI G 726 (nF ee)) := by rw [eM_149, va_up_ne _ _ (by decide)]; exact hm_135
                                have hm_157 : M_146 71 = some (aI G 40 (nF lst)) := by rw [eM_149, va_up_ne _ _ (by decide)]; exact hm_136
                                have hm_158 : M_146 75 = some (aI G 12 ak) := by rw [eM_149, va_up_ne _ _ (by decide)]; exact hm_137
                                have hm_159 : M_146 77 = some (aI G 12 (nF ap)) := by rw [eM_149, va_up_ne _ _ (by decide)]; exact hm_138
                                have hm_160 : M_146 78 = some (aI G 48 pr) := by rw [eM_149, va_up_ne _ _ (by decide)]; exact hm_139
                                have hm_161 : M_146 79 = some (aI G 48 pf) := by rw [eM_149, va_up_ne _ _ (by decide)]; exact hm_140
                                have hm_162 : M_146 76 = some (aZ G 12 (bF nt)) := by rw [eM_149, va_up_ne _ _ (by decide)]; exact hm_141
                                have hm_163 : M_146 84 = some (aI G 3 (upd (upd (upd fo 0 (nI a)) 1 (nI b)) 2 (nI c9))) := by rw [eM_149]; exact va_up_self _ _ _
                                have hm_164 : M_146 82 = some (aZ G 384000 (bF tr2_11)) := by rw [eM_149, va_up_ne _ _ (by decide)]; exact hm_143
                                have hm_165 : M_146 83 = some (aI G 3 (oF gv2_12)) := by rw [eM_149, va_up_ne _ _ (by decide)]; exact hm_144
                                have hF_166 : ∀ j : Nat, j ≠ 82 → j ≠ 83 → j ≠ 84 → M_146 j = M j := fun j q0 q1 q2 => by rw [eM_149, va_up_ne _ _ q2]; exact hF_145 j q0 q1 q2
                                refine lv_iload_n hx hb dX10_goes_121 rfl (lv_at hl 3 rfl) ?_
                                subst hQ
                                exact e_Ni hx hb hr rfl hlocks hI ⟨tr2_11, gv2_12, upd (upd (upd fo 0 (nI a)) 1 (nI b)) 2 (nI c9), hm_164, hm_165, hm_163, (fun j q0 q1 q2 => hF_166 j q0 q1 q2), ⟨hP_10, Or.inr ⟨a * 1600 + b * 40 + c9, by omega, ((gP_at (by omega) (by omega)).trans (by rw [show opn vr lst 0 a = true by assumption, show opn vr lst 1 b = true by assumption, show opn vr lst 2 c9 = true by assumption, show okM tr2_11 nt te ap a b c9 ao = true by assumption]; rfl)), by rw [← hcc]; assumption, (by rw [show (a * 1600 + b * 40 + c9) / 1600 = a by omega]; rfl), (by rw [show (a * 1600 + b * 40 + c9) / 40 % 40 = b by omega]; rfl), (by rw [show (a * 1600 + b * 40 + c9) % 40 = c9 by omega]; rfl)⟩⟩⟩ dX10_goes_122
                            · -- 86: bI (okM tr2_11 nt te ap a b c9 ao) eq
                              have c_102 : okM tr2_11 nt te ap a b c9 ao = false := bI_f (c_102)
                              refine lv_goto (tgt := 126) hx hb dX10_goes_89 (by decide) ?_
                              refine lv_iinc (v := nI (c9 + 1)) (lv' := [(6, .int (nI (c9 + 1))), (0, .ref (ad 60)), (1, .int d), (2, .int w), (3, .int (nI cc9)), (4, .int (nI a)), (5, .int (nI b))]) hx hb dX10_goes_126 hl (k := 6) rfl (nI_add c9 1) (by decide) rfl (fun ls hl => ?_)
                              refine lv_goto (tgt := 49) hx hb dX10_goes_129 (by decide) ?_
                              exact ih_78 (c9 + 1) cc9 Mx Hx locsx ls (by omega) (by omega) (gs_f hcc ((gP_at (by omega) (by omega)).trans (by rw [show okM tr2_11 nt te ap a b c9 ao = false by assumption, Bool.and_false, Bool.and_false, Bool.and_false]))) (no_f hnc ((gP_at (by omega) (by omega)).trans (by rw [show okM tr2_11 nt te ap a b c9 ao = false by assumption, Bool.and_false, Bool.and_false, Bool.and_false]))) hI hm_74 hm_75 (fun j q0 q1 => hF_77 j q0 q1) (lv_sub hl [1, 2, 3, 4, 5, 6, 0] rfl)
                  exact lp49_73 ((40 - 0) + 1) 0 cb Mx Hx locsx ls (Nat.lt_succ_self _) (by omega) (hcb) (hnb) hI hm_50 hm_51 (fun j q0 q1 => hF_53 j q0 q1) (lv_sub hl [1, 2, 3, 4, 5, 6, 0] rfl)
          exact lp29_49 ((40 - 0) + 1) 0 cn Mx Hx locsx ls (Nat.lt_succ_self _) (by omega) (hcn) (hno) hI hm_29 hm_30 (fun j q0 q1 => hF_32 j q0 q1) (lv_sub hl [1, 2, 3, 4, 5, 0] rfl)
    exact lp19_28 ((40 - 0) + 1) 0 0 M_4 H_5 locs_6 ls (Nat.lt_succ_self _) (by omega) (rfl) (fun k hk => absurd hk (by omega)) hI hm_7 hm_8 (fun j q0 q1 => hF_27 j q0 q1) (lv_sub hl [2, 3, 4, 1, 0] rfl)
  · -- 4: nI ao eq
    have c_1 : ao = 0 := (nI_eq (a := ao) (b := 0) (by omega) (by omega)).mp (c_1)
    omega

/-- X10_goes -/
abbrev rm_c_X10_goes_0 : Room := { frames := 0, cells := 0, slots := 0, locals := 0 }
set_option maxHeartbeats 4000000 in
set_option maxRecDepth 100000 in
theorem c_X10_goes_0 (l : Launch) (G : GG) (z : Nat) (ad : Nat → Nat) (M : Mem) {th : Nat} {ln : Nat} {on : Nat} {ao : Nat} {vr : Nat} {sn : Nat} {tp : Nat} {pt : Nat} {zs : Nat} {bg : Nat} {fa : Int32} {d : Int32} {w : Int32} (h60 : M 60 = some (cModel ad th ln on ao vr sn tp pt zs bg fa)) (hao : ao = 0) : Met l yX10_goes wsX10_goes rm_c_X10_goes_0 (Pr G z ad M [.ref (ad 60), .int d, .int w]) (vp_Si (fun r : Int32 => r = nI 0)) 0 0 (fun _ => False) := by
  refine Met.ofW (cc := cX10_goes) (maxL := 7) (ret := (some .int)) (by decide) rfl ?_
  intro p e s m args below meth c s₁ B hml hv
  obtain ⟨rfl, hv⟩ := hv
  have hI := Iv.entry hv
  have hx := B.exec
  have hb := B.bytes
  have hr := B.returns
  have hts := atoms_spec (ws := wsX10_goes) B.pre
  have hown : s.vm.findClass RX10 = some m.cls := findClass_of_methodNamed B.named
  have hlocks := B.notSynchronized
  have i_RX10 : ∀ w ∈ u_ws RX10 TX10 38, w ∈ wsX10_goes := fun w h => List.mem_cons_of_mem _ (iu_X10 w h)
  have f_226 := hts _ (List.mem_cons_of_mem _ (lwg_of t_1035 rfl))
  have hl := lv_entry ([.ref (ad 60), .int d, .int w]) (n := 7) (Nat.le_of_ble_eq_true rfl)
  rw [lg_entry_eq]
  generalize (lg_sl ([.ref (ad 60), .int d, .int w]) ++ List.replicate (7 - (lg_sl ([.ref (ad 60), .int d, .int w])).length) Slot.unset).toArray = ls at hl ⊢
  have hl : lv_has ls 7 [(0, .ref (ad 60)), (1, .int d), (2, .int w)] := hl
  refine lv_aload_n hx hb dX10_goes_0 rfl (lv_at hl 0 rfl) ?_
  refine h_get (C := RX10) (T := TX10) (N := 38) hx hb hts i_RX10 hown hI h60 rfl 22 (by decide) f_226 rfl rfl dX10_goes_1 ?_
  refine lv_if_ne (tgt := 9) hx hb dX10_goes_4 (by decide) (fun c_1 => ?_) (fun c_1 => ?_)
  · -- 4: nI ao ne
    have c_1 : ao ≠ 0 := by have h := mt (nI_eq (a := ao) (b := 0) (by omega) (by omega)).mpr c_1; omega
    omega
  · -- 4: nI ao eq
    have c_1 : ao = 0 := (nI_eq (a := ao) (b := 0) (by omega) (by omega)).mp (c_1)
    refine lv_iconst (v := nI 0) hx hb dX10_goes_7 (by decide) ?_
    exact e_Ri hx hb hr rfl hlocks (rfl) dX10_goes_8
