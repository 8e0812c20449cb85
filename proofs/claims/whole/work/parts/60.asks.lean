/-- what is true of atom i by the lines before l -/
def aQ (kd : Nat → Nat) (fm to : Nat → Int32) (sz : Nat → Nat) (rl en : Nat → Nat → Nat) (lst ro te kn ap : Nat → Nat) (gv : Nat → Option Nat) (d : Int32) (i l x : Nat) : Prop := kd l = kn i ∧ decide (fm l ≤ d ∧ d ≤ to l) = true ∧ ftS sz rl en lst ro te i l (ap i) 0 gv x
def aI2 (kd : Nat → Nat) (fm to : Nat → Int32) (sz : Nat → Nat) (rl en : Nat → Nat → Nat) (lst ro te kn ap : Nat → Nat) (gv : Nat → Option Nat) (d : Int32) (n N i l : Nat) (trx : Nat → Bool) : Prop := ∀ x, x < N → (trx x = true ↔ (∃ i9, i9 < i ∧ ∃ l9, l9 < n ∧ aQ kd fm to sz rl en lst ro te kn ap gv d i9 l9 x) ∨ ∃ l9, l9 < l ∧ aQ kd fm to sz rl en lst ro te kn ap gv d i l9 x)
section AQ
variable {kd : Nat → Nat} {fm to : Nat → Int32} {sz : Nat → Nat} {rl en : Nat → Nat → Nat} {lst ro te kn ap : Nat → Nat} {gv : Nat → Option Nat} {d : Int32} {n N i l : Nat} {trx tr2 : Nat → Bool}
theorem aI_no (h : aI2 kd fm to sz rl en lst ro te kn ap gv d n N i l trx) (hn : ∀ x, ¬ aQ kd fm to sz rl en lst ro te kn ap gv d i l x) : aI2 kd fm to sz rl en lst ro te kn ap gv d n N i (l + 1) trx := fun x hx => by
  rw [h x hx]
  refine or_congr Iff.rfl ⟨fun ⟨k, a, b⟩ => ⟨k, by omega, b⟩, fun ⟨k, a, b⟩ => ?_⟩
  by_cases e : k = l
  · subst e; exact absurd b (hn x)
  · exact ⟨k, by omega, b⟩
theorem aI_yes {r : Nat} (h : aI2 kd fm to sz rl en lst ro te kn ap gv d n N i l trx) (h1 : kd l = kn i) (h2 : decide (fm l ≤ d ∧ d ≤ to l) = true) (hr : ap i = r) (h3 : ∀ x, tr2 x = true ↔ trx x = true ∨ ftS sz rl en lst ro te i l r 0 gv x) : aI2 kd fm to sz rl en lst ro te kn ap gv d n N i (l + 1) tr2 := fun x hx => by
  rw [h3 x, h x hx, or_assoc]
  refine or_congr Iff.rfl ⟨?_, fun ⟨k, a, b⟩ => ?_⟩
  · rintro (⟨k, a, b⟩ | a)
    · exact ⟨k, by omega, b⟩
    · exact ⟨l, by omega, h1, h2, by rw [hr]; exact a⟩
  · by_cases e : k = l
    · subst e; exact Or.inr (by have := b.2.2; rw [hr] at this; exact this)
    · exact Or.inl ⟨k, by omega, b⟩
theorem aI_next (h : aI2 kd fm to sz rl en lst ro te kn ap gv d n N i l trx) (hl : l = n) : aI2 kd fm to sz rl en lst ro te kn ap gv d n N (i + 1) 0 trx := fun x hx => by
  subst hl
  rw [h x hx]
  constructor
  · rintro (⟨k, a, b⟩ | b)
    · exact Or.inl ⟨k, by omega, b⟩
    · exact Or.inl ⟨i, by omega, b⟩
  · rintro (⟨k, a, b⟩ | ⟨k, a, _⟩)
    · by_cases e : k = i
      · subst e; exact Or.inr b
      · exact Or.inl ⟨k, by omega, b⟩
    · exact absurd a (Nat.not_lt_zero k)
theorem aI_0 (h : ∀ x, x < N → trx x = false) : aI2 kd fm to sz rl en lst ro te kn ap gv d n N 0 0 trx := fun x hx => by
  rw [h x hx]
  refine ⟨fun h => (by cases h), ?_⟩
  rintro (⟨k, a, _⟩ | ⟨k, a, _⟩) <;> exact absurd a (Nat.not_lt_zero k)
end AQ

/-- X10_asks -/
abbrev rm_c_X10_asks : Room := { frames := 6, cells := 0, slots := 0, locals := 170 }
set_option maxHeartbeats 4000000 in
set_option maxRecDepth 100000 in
theorem c_X10_asks (l : Launch) (G : GG) (z : Nat) (ad : Nat → Nat) (M : Mem) {th : Nat} {on : Nat} {ao : Nat} {vr : Nat} {sn : Nat} {tp : Nat} {pt : Nat} {zs : Nat} {bg : Nat} {fa : Int32} {n : Nat} {kd : Nat → Nat} {fm : Nat → Int32} {to : Nat → Int32} {sz : Nat → Nat} {rl : Nat → Nat → Nat} {en : Nat → Nat → Nat} {mk : Nat → Nat} {mf : Nat → Int32} {mu : Nat → Int32} {mz : Nat → Nat} {rr : Nat → Nat} {ee : Nat → Nat} {lst : Nat → Nat} {ak : Nat → Int32} {ap : Nat → Nat} {pr : Nat → Int32} {pf : Nat → Int32} {kn : Nat → Nat} {ro : Nat → Nat} {te : Nat → Nat} {tr : Nat → Bool} {gv : Nat → Option Nat} {d : Int32} (h60 : M 60 = some (cModel ad th n on ao vr sn tp pt zs bg fa)) (h65 : M 65 = some (aI G 120 (nF mk))) (h66 : M 66 = some (aI G 120 mf)) (h67 : M 67 = some (aI G 120 mu)) (h68 : M 68 = some (aI G 121 (nF mz))) (h69 : M 69 = some (aI G 726 (nF rr))) (h70 : M 70 = some (aI G 726 (nF ee))) (h71 : M 71 = some (aI G 40 (nF lst))) (h75 : M 75 = some (aI G 12 ak)) (h77 : M 77 = some (aI G 12 (nF ap))) (h78 : M 78 = some (aI G 48 pr)) (h79 : M 79 = some (aI G 48 pf)) (h82 : M 82 = some (aZ G 384000 (bF tr))) (h83 : M 83 = some (aI G 3 (oF gv))) (hw : LSw n kd sz rl en) (hmr : MRel n kd fm to sz rl en mk mf mu mz rr ee) (hao : ao ≤ 6) (hqp : ∀ i, i < ao → ap i ≤ 4 ∧ (ak i = nI (kn i) ∧ kn i < 6) ∧ ∀ p8, p8 < ap i → (pr (4 * i + p8) = nI (ro (i * 4 + p8)) ∧ ro (i * 4 + p8) < 6) ∧ te (i * 4 + p8) < 43 ∧ pf (4 * i + p8) = tmI (te (i * 4 + p8))) (hlst : ∀ u, u < 40 → lst u < 40) : Met l yX10_asks wsX10_asks rm_c_X10_asks (Pr G z ad M [.ref (ad 60), .int d]) (Nv G z ad (fun (M' : Mem) => ∃ tr2 : Nat → Bool, ∃ gv2 : Nat → Option Nat, M' 82 = some (aZ G 384000 (bF tr2)) ∧ M' 83 = some (aI G 3 (oF gv2)) ∧ (∀ j : Nat, j ≠ 82 → j ≠ 83 → M' j = M j) ∧ ((∀ v, v < 3 → gv2 v = none) ∧ ∀ x, x < ao * 64000 → (tr2 x = true ↔ ∃ i9, i9 < ao ∧ ∃ l9, l9 < n ∧ aQ kd fm to sz rl en lst ro te kn ap gv2 d i9 l9 x)))) 0 0 (fr z) := by
  refine Met.ofW (cc := cX10_asks) (maxL := 4) (ret := none) (by decide) rfl ?_
  intro p e s m args below meth c s₁ B hml hv
  obtain ⟨rfl, hv⟩ := hv
  have hI := Iv.entry hv
  have hx := B.exec
  have hb := B.bytes
  have hr := B.returns
  have hts := atoms_spec (ws := wsX10_asks) B.pre
  have hown : s.vm.findClass RX10 = some m.cls := findClass_of_methodNamed B.named
  have hlocks := B.notSynchronized
  have i_RX10 : ∀ w ∈ u_ws RX10 TX10 38, w ∈ wsX10_asks := fun w h => List.mem_cons_of_mem _ (iu_X10 w h)
  have f_226 := hts _ (List.mem_cons_of_mem _ (lwg_of t_1035 rfl))
  have k_239 := hts _ (List.mem_cons_of_mem _ (lwg_of t_1330 rfl))
  have f_108 := hts _ (List.mem_cons_of_mem _ (lwg_of t_1024 rfl))
  have f_27 := hts _ (List.mem_cons_of_mem _ (lwg_of t_1018 rfl))
  have f_57 := hts _ (List.mem_cons_of_mem _ (lwg_of t_1030 rfl))
  have f_86 := hts _ (List.mem_cons_of_mem _ (lwg_of t_1046 rfl))
  have f_83 := hts _ (List.mem_cons_of_mem _ (lwg_of t_1045 rfl))
  have hl := lv_entry ([.ref (ad 60), .int d]) (n := 4) (Nat.le_of_ble_eq_true rfl)
  rw [lg_entry_eq]
  generalize (lg_sl ([.ref (ad 60), .int d]) ++ List.replicate (4 - (lg_sl ([.ref (ad 60), .int d])).length) Slot.unset).toArray = ls at hl ⊢
  have hl : lv_has ls 4 [(0, .ref (ad 60)), (1, .int d)] := hl
  refine w_q (fun Q hQ => ?_)
  have hw1 := hw.1
  refine lv_iconst (v := nI 0) hx hb dX10_asks_0 (by decide) ?_
  refine lv_istore_n (lv' := [(2, .int (nI 0)), (0, .ref (ad 60)), (1, .int d)]) hx hb dX10_asks_1 rfl hl (by decide) rfl (fun ls hl => ?_)
  have lp2_1 : ∀ (fuel : Nat) (k : Nat) (t0 : Nat → Bool) (Mx : Mem) (Hx : Heap) (locsx : List Loc) (ls : Array Slot), (ao * 64000 - k) < fuel → (k ≤ ao * 64000) → (∀ x, x < k → t0 x = false) → Iv G z ad Mx s Hx locsx → Mx 82 = some (aZ G 384000 (bF t0)) → (∀ j : Nat, j ≠ 82 → Mx j = M j) → lv_has ls 4 [(0, .ref (ad 60)), (1, .int d), (2, .int (nI k))] → W p l e (headSpec wsX10_asks rm_c_X10_asks).room s m ([.ref (ad 60), .int d] : List Value).toArray below meth c Hx locsx 0 0 Q (F0 m 2 ls []) := by
    intro fuel
    induction fuel with
    | zero => intro k t0 Mx Hx locsx ls hfu hk ht0 hI hm_2 hF_4 hl; exact absurd hfu (Nat.not_lt_zero _)
    | succ fuel ih_5 =>
      intro k t0 Mx Hx locsx ls hfu hk ht0 hI hm_2 hF_4 hl
      have hm_6 : Mx 60 = some (cModel ad th n on ao vr sn tp pt zs bg fa) := by rw [hF_4 60 (by omega)]; exact h60
      have hm_7 : Mx 65 = some (aI G 120 (nF mk)) := by rw [hF_4 65 (by omega)]; exact h65
      have hm_8 : Mx 66 = some (aI G 120 mf) := by rw [hF_4 66 (by omega)]; exact h66
      have hm_9 : Mx 67 = some (aI G 120 mu) := by rw [hF_4 67 (by omega)]; exact h67
      have hm_10 : Mx 68 = some (aI G 121 (nF mz)) := by rw [hF_4 68 (by omega)]; exact h68
      have hm_11 : Mx 69 = some (aI G 726 (nF rr)) := by rw [hF_4 69 (by omega)]; exact h69
      have hm_12 : Mx 70 = some (aI G 726 (nF ee)) := by rw [hF_4 70 (by omega)]; exact h70
      have hm_13 : Mx 71 = some (aI G 40 (nF lst)) := by rw [hF_4 71 (by omega)]; exact h71
      have hm_14 : Mx 75 = some (aI G 12 ak) := by rw [hF_4 75 (by omega)]; exact h75
      have hm_15 : Mx 77 = some (aI G 12 (nF ap)) := by rw [hF_4 77 (by omega)]; exact h77
      have hm_16 : Mx 78 = some (aI G 48 pr) := by rw [hF_4 78 (by omega)]; exact h78
      have hm_17 : Mx 79 = some (aI G 48 pf) := by rw [hF_4 79 (by omega)]; exact h79
      have hm_18 : Mx 83 = some (aI G 3 (oF gv)) := by rw [hF_4 83 (by omega)]; exact h83
      refine lv_iload_n hx hb dX10_asks_2 rfl (lv_at hl 2 rfl) ?_
      refine lv_aload_n hx hb dX10_asks_3 rfl (lv_at hl 0 rfl) ?_
      refine h_get (C := RX10) (T := TX10) (N := 38) hx hb hts i_RX10 hown hI hm_6 rfl 22 (by decide) f_226 rfl rfl dX10_asks_4 ?_
      refine lv_ldc hx hb hown k_239 dX10_asks_7 ?_
      refine n_eq (show _ = nI 64000 from rfl) ?_
      refine lv_imul hx hb dX10_asks_9 ?_
      refine n_eq (pk_mul ao 64000) ?_
      refine lv_icmp_ge (tgt := 26) hx hb dX10_asks_10 (by decide) (fun c_19 => ?_) (fun c_19 => ?_)
      · -- 10: nI k ge
        have c_19 : ao * 64000 ≤ k := (nI_leI (a := ao * 64000) (b := k) (by omega) (by omega)).mp (c_19)
        refine lv_iconst (v := nI 0) hx hb dX10_asks_26 (by decide) ?_
        refine lv_istore_n (lv' := [(2, .int (nI 0)), (0, .ref (ad 60)), (1, .int d)]) hx hb dX10_asks_27 rfl hl (by decide) rfl (fun ls hl => ?_)
        have lp28_20 : ∀ (fuel : Nat) (k2 : Nat) (gw : Nat → Option Nat) (Mx : Mem) (Hx : Heap) (locsx : List Loc) (ls : Array Slot), (3 - k2) < fuel → (k2 ≤ 3) → (∀ v, v < k2 → gw v = none) → Iv G z ad Mx s Hx locsx → Mx 82 = some (aZ G 384000 (bF t0)) → Mx 83 = some (aI G 3 (oF gw)) → (∀ j : Nat, j ≠ 82 → j ≠ 83 → Mx j = M j) → lv_has ls 4 [(0, .ref (ad 60)), (1, .int d), (2, .int (nI k2))] → W p l e (headSpec wsX10_asks rm_c_X10_asks).room s m ([.ref (ad 60), .int d] : List Value).toArray below meth c Hx locsx 0 0 Q (F0 m 28 ls []) := by
          intro fuel
          induction fuel with
          | zero => intro k2 gw Mx Hx locsx ls hfu hk2 hgw hI hm_21 hm_22 hF_24 hl; exact absurd hfu (Nat.not_lt_zero _)
          | succ fuel ih_25 =>
            intro k2 gw Mx Hx locsx ls hfu hk2 hgw hI hm_21 hm_22 hF_24 hl
            have hm_26 : Mx 60 = some (cModel ad th n on ao vr sn tp pt zs bg fa) := by rw [hF_24 60 (by omega) (by omega)]; exact h60
            have hm_27 : Mx 65 = some (aI G 120 (nF mk)) := by rw [hF_24 65 (by omega) (by omega)]; exact h65
            have hm_28 : Mx 66 = some (aI G 120 mf) := by rw [hF_24 66 (by omega) (by omega)]; exact h66
            have hm_29 : Mx 67 = some (aI G 120 mu) := by rw [hF_24 67 (by omega) (by omega)]; exact h67
            have hm_30 : Mx 68 = some (aI G 121 (nF mz)) := by rw [hF_24 68 (by omega) (by omega)]; exact h68
            have hm_31 : Mx 69 = some (aI G 726 (nF rr)) := by rw [hF_24 69 (by omega) (by omega)]; exact h69
            have hm_32 : Mx 70 = some (aI G 726 (nF ee)) := by rw [hF_24 70 (by omega) (by omega)]; exact h70
            have hm_33 : Mx 71 = some (aI G 40 (nF lst)) := by rw [hF_24 71 (by omega) (by omega)]; exact h71
            have hm_34 : Mx 75 = some (aI G 12 ak) := by rw [hF_24 75 (by omega) (by omega)]; exact h75
            have hm_35 : Mx 77 = some (aI G 12 (nF ap)) := by rw [hF_24 77 (by omega) (by omega)]; exact h77
            have hm_36 : Mx 78 = some (aI G 48 pr) := by rw [hF_24 78 (by omega) (by omega)]; exact h78
            have hm_37 : Mx 79 = some (aI G 48 pf) := by rw [hF_24 79 (by omega) (by omega)]; exact h79
            refine lv_iload_n hx hb dX10_asks_28 rfl (lv_at hl 2 rfl) ?_
            refine lv_iconst (v := nI 3) hx hb dX10_asks_29 (by decide) ?_
            refine lv_icmp_ge (tgt := 46) hx hb dX10_asks_30 (by decide) (fun c_38 => ?_) (fun c_38 => ?_)
            · -- 30: nI k2 ge
              have c_38 : 3 ≤ k2 := (nI_leI (a := 3) (b := k2) (by omega) (by omega)).mp (c_38)
              have hg3 : ∀ v, v < 3 → gw v = none := fun v hv => hgw v (by omega)
              have hgs : ∀ v, v < 3 → ∀ t, gw v = some t → t < 40 := fun v hv t ht => by rw [hg3 v hv] at ht; cases ht
              refine lv_iconst (v := nI 0) hx hb dX10_asks_46 (by decide) ?_
              refine lv_istore_n (lv' := [(2, .int (nI 0)), (0, .ref (ad 60)), (1, .int d)]) hx hb dX10_asks_47 rfl hl (by decide) rfl (fun ls hl => ?_)
              have lp48_39 : ∀ (fuel : Nat) (i : Nat) (trx : Nat → Bool) (Mx : Mem) (Hx : Heap) (locsx : List Loc) (ls : Array Slot), (ao - i) < fuel → (i ≤ ao) → (aI2 kd fm to sz rl en lst ro te kn ap gw d n (ao * 64000) i 0 trx) → Iv G z ad Mx s Hx locsx → Mx 82 = some (aZ G 384000 (bF trx)) → Mx 83 = some (aI G 3 (oF gw)) → (∀ j : Nat, j ≠ 82 → j ≠ 83 → Mx j = M j) → lv_has ls 4 [(0, .ref (ad 60)), (1, .int d), (2, .int (nI i))] → W p l e (headSpec wsX10_asks rm_c_X10_asks).room s m ([.ref (ad 60), .int d] : List Value).toArray below meth c Hx locsx 0 0 Q (F0 m 48 ls []) := by
                intro fuel
                induction fuel with
                | zero => intro i trx Mx Hx locsx ls hfu hi hti hI hm_40 hm_41 hF_43 hl; exact absurd hfu (Nat.not_lt_zero _)
                | succ fuel ih_44 =>
                  intro i trx Mx Hx locsx ls hfu hi hti hI hm_40 hm_41 hF_43 hl
                  have hm_45 : Mx 60 = some (cModel ad th n on ao vr sn tp pt zs bg fa) := by rw [hF_43 60 (by omega) (by omega)]; exact h60
                  have hm_46 : Mx 65 = some (aI G 120 (nF mk)) := by rw [hF_43 65 (by omega) (by omega)]; exact h65
                  have hm_47 : Mx 66 = some (aI G 120 mf) := by rw [hF_43 66 (by omega) (by omega)]; exact h66
                  have hm_48 : Mx 67 = some (aI G 120 mu) := by rw [hF_43 67 (by omega) (by omega)]; exact h67
                  have hm_49 : Mx 68 = some (aI G 121 (nF mz)) := by rw [hF_43 68 (by omega) (by omega)]; exact h68
                  have hm_50 : Mx 69 = some (aI G 726 (nF rr)) := by rw [hF_43 69 (by omega) (by omega)]; exact h69
                  have hm_51 : Mx 70 = some (aI G 726 (nF ee)) := by rw [hF_43 70 (by omega) (by omega)]; exact h70
                  have hm_52 : Mx 71 = some (aI G 40 (nF lst)) := by rw [hF_43 71 (by omega) (by omega)]; exact h71
                  have hm_53 : Mx 75 = some (aI G 12 ak) := by rw [hF_43 75 (by omega) (by omega)]; exact h75
                  have hm_54 : Mx 77 = some (aI G 12 (nF ap)) := by rw [hF_43 77 (by omega) (by omega)]; exact h77
                  have hm_55 : Mx 78 = some (aI G 48 pr) := by rw [hF_43 78 (by omega) (by omega)]; exact h78
                  have hm_56 : Mx 79 = some (aI G 48 pf) := by rw [hF_43 79 (by omega) (by omega)]; exact h79
                  refine lv_iload_n hx hb dX10_asks_48 rfl (lv_at hl 2 rfl) ?_
                  refine lv_aload_n hx hb dX10_asks_49 rfl (lv_at hl 0 rfl) ?_
                  refine h_get (C := RX10) (T := TX10) (N := 38) hx hb hts i_RX10 hown hI hm_45 rfl 22 (by decide) f_226 rfl rfl dX10_asks_50 ?_
                  refine lv_icmp_ge (tgt := 109) hx hb dX10_asks_53 (by decide) (fun c_57 => ?_) (fun c_57 => ?_)
                  · -- 53: nI i ge
                    have c_57 : ao ≤ i := (nI_leI (a := ao) (b := i) (by omega) (by omega)).mp (c_57)
                    subst hQ
                    exact e_Nv hx hb hr hlocks hI ⟨trx, gw, hm_40, hm_41, (fun j q0 q1 => hF_43 j q0 q1), ⟨hg3, fun x hx => by
      have h9 := hti x hx
      rw [show i = ao by omega] at h9
      exact h9.trans ⟨fun h8 => h8.elim id (fun ⟨k9, h7, _⟩ => absurd h7 (Nat.not_lt_zero k9)), Or.inl⟩⟩⟩ dX10_asks_109
                  · -- 53: nI i lt
                    have c_57 : i < ao := by have h := mt (nI_leI (a := ao) (b := i) (by omega) (by omega)).mpr c_57; omega
                    obtain ⟨hap4, ⟨hak, hkn⟩, hpp⟩ := hqp i (by omega)
                    refine lv_iconst (v := nI 0) hx hb dX10_asks_56 (by decide) ?_
                    refine lv_istore_n (lv' := [(3, .int (nI 0)), (0, .ref (ad 60)), (1, .int d), (2, .int (nI i))]) hx hb dX10_asks_57 rfl hl (by decide) rfl (fun ls hl => ?_)
                    have lp58_58 : ∀ (fuel : Nat) (l9 : Nat) (trY : Nat → Bool) (Mx : Mem) (Hx : Heap) (locsx : List Loc) (ls : Array Slot), (n - l9) < fuel → (l9 ≤ n) → (aI2 kd fm to sz rl en lst ro te kn ap gw d n (ao * 64000) i l9 trY) → Iv G z ad Mx s Hx locsx → Mx 82 = some (aZ G 384000 (bF trY)) → Mx 83 = some (aI G 3 (oF gw)) → (∀ j : Nat, j ≠ 82 → j ≠ 83 → Mx j = M j) → lv_has ls 4 [(0, .ref (ad 60)), (1, .int d), (2, .int (nI i)), (3, .int (nI l9))] → W p l e (headSpec wsX10_asks rm_c_X10_asks).room s m ([.ref (ad 60), .int d] : List Value).toArray below meth c Hx locsx 0 0 Q (F0 m 58 ls []) := by
                      intro fuel
                      induction fuel with
                      | zero => intro l9 trY Mx Hx locsx ls hfu hl9 htl hI hm_59 hm_60 hF_62 hl; exact absurd hfu (Nat.not_lt_zero _)
                      | succ fuel ih_63 =>
                        intro l9 trY Mx Hx locsx ls hfu hl9 htl hI hm_59 hm_60 hF_62 hl
                        have hm_64 : Mx 60 = some (cModel ad th n on ao vr sn tp pt zs bg fa) := by rw [hF_62 60 (by omega) (by omega)]; exact h60
                        have hm_65 : Mx 65 = some (aI G 120 (nF mk)) := by rw [hF_62 65 (by omega) (by omega)]; exact h65
                        have hm_66 : Mx 66 = some (aI G 120 mf) := by rw [hF_62 66 (by omega) (by omega)]; exact h66
                        have hm_67 : Mx 67 = some (aI G 120 mu) := by rw [hF_62 67 (by omega) (by omega)]; exact h67
                        have hm_68 : Mx 68 = some (aI G 121 (nF mz)) := by rw [hF_62 68 (by omega) (by omega)]; exact h68
                        have hm_69 : Mx 69 = some (aI G 726 (nF rr)) := by rw [hF_62 69 (by omega) (by omega)]; exact h69
                        have hm_70 : Mx 70 = some (aI G 726 (nF ee)) := by rw [hF_62 70 (by omega) (by omega)]; exact h70
                        have hm_71 : Mx 71 = some (aI G 40 (nF lst)) := by rw [hF_62 71 (by omega) (by omega)]; exact h71
                        have hm_72 : Mx 75 = some (aI G 12 ak) := by rw [hF_62 75 (by omega) (by omega)]; exact h75
                        have hm_73 : Mx 77 = some (aI G 12 (nF ap)) := by rw [hF_62 77 (by omega) (by omega)]; exact h77
                        have hm_74 : Mx 78 = some (aI G 48 pr) := by rw [hF_62 78 (by omega) (by omega)]; exact h78
                        have hm_75 : Mx 79 = some (aI G 48 pf) := by rw [hF_62 79 (by omega) (by omega)]; exact h79
                        refine lv_iload_n hx hb dX10_asks_58 rfl (lv_at hl 3 rfl) ?_
                        refine lv_aload_n hx hb dX10_asks_59 rfl (lv_at hl 0 rfl) ?_
                        refine h_get (C := RX10) (T := TX10) (N := 38) hx hb hts i_RX10 hown hI hm_64 rfl 11 (by decide) f_108 rfl rfl dX10_asks_60 ?_
                        refine lv_icmp_ge (tgt := 103) hx hb dX10_asks_63 (by decide) (fun c_76 => ?_) (fun c_76 => ?_)
                        · -- 63: nI l9 ge
                          have c_76 : n ≤ l9 := (nI_leI (a := n) (b := l9) (by omega) (by omega)).mp (c_76)
                          refine lv_iinc (v := nI (i + 1)) (lv' := [(2, .int (nI (i + 1))), (0, .ref (ad 60)), (1, .int d), (3, .int (nI l9))]) hx hb dX10_asks_103 hl (k := 2) rfl (nI_add i 1) (by decide) rfl (fun ls hl => ?_)
                          refine lv_goto (tgt := 48) hx hb dX10_asks_106 (by decide) ?_
                          exact ih_44 (i + 1) trY Mx Hx locsx ls (by omega) (by omega) (aI_next htl (by omega)) hI hm_59 hm_60 (fun j q0 q1 => hF_62 j q0 q1) (lv_sub hl [1, 2, 0] rfl)
                        · -- 63: nI l9 lt
                          have c_76 : l9 < n := by have h := mt (nI_leI (a := n) (b := l9) (by omega) (by omega)).mpr c_76; omega
                          obtain ⟨hmk, hmf, hmt, hmz, hmj⟩ := hmr l9 (by omega)
                          obtain ⟨hk6, hs6, hje⟩ := hw.2 l9 (by omega)
                          refine lv_aload_n hx hb dX10_asks_66 rfl (lv_at hl 0 rfl) ?_
                          refine h_get (C := RX10) (T := TX10) (N := 38) hx hb hts i_RX10 hown hI hm_64 rfl 5 (by decide) f_27 rfl rfl dX10_asks_67 ?_
                          refine lv_iload_n hx hb dX10_asks_70 rfl (lv_at hl 3 rfl) ?_
                          refine h_iald (i := l9) hx hb hI hm_65 (by omega) (by decide) dX10_asks_71 ?_
                          refine n_eq (show _ = nI (kd l9) from congrArg nI hmk) ?_
                          refine lv_aload_n hx hb dX10_asks_72 rfl (lv_at hl 0 rfl) ?_
                          refine h_get (C := RX10) (T := TX10) (N := 38) hx hb hts i_RX10 hown hI hm_64 rfl 17 (by decide) f_57 rfl rfl dX10_asks_73 ?_
                          refine lv_iload_n hx hb dX10_asks_76 rfl (lv_at hl 2 rfl) ?_
                          refine h_iald (i := i) hx hb hI hm_72 (by omega) (by decide) dX10_asks_77 ?_
                          refine n_eq (show _ = nI (kn i) from hak) ?_
                          refine lv_icmp_ne (tgt := 97) hx hb dX10_asks_78 (by decide) (fun c_77 => ?_) (fun c_77 => ?_)
                          · -- 78: nI (kd l9) ne
                            have c_77 : kd l9 ≠ kn i := by have h := mt (nI_eq (a := kd l9) (b := kn i) (by omega) (by omega)).mpr c_77; omega
                            refine lv_iinc (v := nI (l9 + 1)) (lv' := [(3, .int (nI (l9 + 1))), (0, .ref (ad 60)), (1, .int d), (2, .int (nI i))]) hx hb dX10_asks_97 hl (k := 3) rfl (nI_add l9 1) (by decide) rfl (fun ls hl => ?_)
                            refine lv_goto (tgt := 58) hx hb dX10_asks_100 (by decide) ?_
                            exact ih_63 (l9 + 1) trY Mx Hx locsx ls (by omega) (by omega) (aI_no htl (fun x h9 => absurd h9.1 (by assumption))) hI hm_59 hm_60 (fun j q0 q1 => hF_62 j q0 q1) (lv_sub hl [1, 2, 3, 0] rfl)
                          · -- 78: nI (kd l9) eq
                            have c_77 : kd l9 = kn i := (nI_eq (a := kd l9) (b := kn i) (by omega) (by omega)).mp (c_77)
                            refine lv_aload_n hx hb dX10_asks_81 rfl (lv_at hl 0 rfl) ?_
                            refine lv_iload_n hx hb dX10_asks_82 rfl (lv_at hl 3 rfl) ?_
                            refine lv_iload_n hx hb dX10_asks_83 rfl (lv_at hl 1 rfl) ?_
                            refine k_Ri (va_runV (As := [.int (nI l9), .int d]) (rest := []) ⟨hx, hb, hml, hown, hts⟩ (c_X10_isOn l G z ad Mx (th := th) (ln := n) (on := on) (ao := ao) (vr := vr) (sn := sn) (tp := tp) (pt := pt) (zs := zs) (bg := bg) (fa := fa) (n := n) (kd := kd) (fm := fm) (to := to) (sz := sz) (rl := rl) (en := en) (mk := mk) (mf := mf) (mu := mu) (mz := mz) (rr := rr) (ee := ee) (q := l9) (d := d) hm_64 hm_66 hm_67 hw hmr (by omega)) (cwV 2 hts (gV (lwg_of t_1176 rfl) (lwg_of t_1178 rfl) (lwg_of ts_27 rfl) (lwg_of t_13 rfl) (lwg_of t_1179 rfl)) rfl rfl rfl (by decide +kernel) ⟨Nat.le_of_ble_eq_true rfl, Nat.le_of_ble_eq_true rfl⟩) (hI.preV hm_64 rfl) rfl rfl hl.1 rfl (lv_room (Nat.le_of_ble_eq_true rfl)) dX10_asks_84 ⟨Nat.le_of_ble_eq_true rfl, Nat.le_of_ble_eq_true rfl⟩) (fun _ h => h) (fun r_78 hp_79 => ?_)
                            rw [hp_79]
                            refine lv_if_eq (tgt := 97) hx hb dX10_asks_87 (by decide) (fun c_80 => ?_) (fun c_80 => ?_)
                            · -- 87: bI (decide (fm l9 ≤ d ∧ d ≤ to l9)) eq
                              have c_80 : decide (fm l9 ≤ d ∧ d ≤ to l9) = false := bI_f (c_80)
                              refine lv_iinc (v := nI (l9 + 1)) (lv' := [(3, .int (nI (l9 + 1))), (0, .ref (ad 60)), (1, .int d), (2, .int (nI i))]) hx hb dX10_asks_97 hl (k := 3) rfl (nI_add l9 1) (by decide) rfl (fun ls hl => ?_)
                              refine lv_goto (tgt := 58) hx hb dX10_asks_100 (by decide) ?_
                              exact ih_63 (l9 + 1) trY Mx Hx locsx ls (by omega) (by omega) (aI_no htl (fun x h9 => by have h8 := h9.2.1; rw [show decide (fm l9 ≤ d ∧ d ≤ to l9) = false by assumption] at h8; cases h8)) hI hm_59 hm_60 (fun j q0 q1 => hF_62 j q0 q1) (lv_sub hl [1, 2, 3, 0] rfl)
                            · -- 87: bI (decide (fm l9 ≤ d ∧ d ≤ to l9)) ne
                              have c_80 : decide (fm l9 ≤ d ∧ d ≤ to l9) = true := bI_t (c_80)
                              refine lv_aload_n hx hb dX10_asks_90 rfl (lv_at hl 0 rfl) ?_
                              refine lv_iload_n hx hb dX10_asks_91 rfl (lv_at hl 2 rfl) ?_
                              refine lv_iload_n hx hb dX10_asks_92 rfl (lv_at hl 3 rfl) ?_
                              rcases (by omega : ap i = 0 ∨ ap i = 1 ∨ ap i = 2 ∨ ap i = 3 ∨ ap i = 4) with hc_81 | hc_82 | hc_83 | hc_84 | hc_85
                              · skip
                                refine lv_iconst (v := nI 0) hx hb dX10_asks_93 (by decide) ?_
                                refine k_Nv (va_runV (As := [.int (nI i), .int (nI l9), .int (nI 0)]) (rest := []) ⟨hx, hb, hml, hown, hts⟩ (c_X10_fits_0 l G z ad Mx (th := th) (ln := n) (on := on) (ao := ao) (vr := vr) (sn := sn) (tp := tp) (pt := pt) (zs := zs) (bg := bg) (fa := fa) (n := n) (kd := kd) (fm := fm) (to := to) (sz := sz) (rl := rl) (en := en) (mk := mk) (mf := mf) (mu := mu) (mz := mz) (rr := rr) (ee := ee) (lst := lst) (ap := ap) (pr := pr) (pf := pf) (ro := ro) (te := te) (tr := trY) (gv := gw) (i := i) (q := l9) (p9 := 0) hm_64 hm_68 hm_69 hm_70 hm_71 hm_73 hm_74 hm_75 hm_59 hm_60 hw hmr (by omega) (by omega) (by omega) hpp hgs hlst (by omega)) (cwV 3 hts (gV (lwg_of t_1331 rfl) (lwg_of t_1333 rfl) (lwg_of ts_41 rfl) (lwg_of t_13 rfl) (lwg_of t_1334 rfl)) rfl rfl rfl (by decide +kernel) ⟨Nat.le_of_ble_eq_true rfl, Nat.le_of_ble_eq_true rfl⟩) (hI.preV hm_64 rfl) rfl rfl hl.1 rfl (lv_room (Nat.le_of_ble_eq_true rfl)) dX10_asks_94 ⟨Nat.le_of_ble_eq_true rfl, Nat.le_of_ble_eq_true rfl⟩) hI (fun M_88 H_89 locs_90 hp_87 hI => ?_)
                                obtain ⟨tr2_95, hm_91, hm_92, hF_93, hP_94⟩ := hp_87
                                have hm_96 : M_88 60 = some (cModel ad th n on ao vr sn tp pt zs bg fa) := by rw [hF_93 60 (by omega) (by omega)]; exact hm_64
                                have hm_97 : M_88 65 = some (aI G 120 (nF mk)) := by rw [hF_93 65 (by omega) (by omega)]; exact hm_65
                                have hm_98 : M_88 66 = some (aI G 120 mf) := by rw [hF_93 66 (by omega) (by omega)]; exact hm_66
                                have hm_99 : M_88 67 = some (aI G 120 mu) := by rw [hF_93 67 (by omega) (by omega)]; exact hm_67
                                have hm_100 : M_88 68 = some (aI G 121 (nF mz)) := by rw [hF_93 68 (by omega) (by omega)]; exact hm_68
                                have hm_101 : M_88 69 = some (aI G 726 (nF rr)) := by rw [hF_93 69 (by omega) (by omega)]; exact hm_69
                                have hm_102 : M_88 70 = some (aI G 726 (nF ee)) := by rw [hF_93 70 (by omega) (by omega)]; exact hm_70
                                have hm_103 : M_88 71 = some (aI G 40 (nF lst)) := by rw [hF_93 71 (by omega) (by omega)]; exact hm_71
                                have hm_104 : M_88 75 = some (aI G 12 ak) := by rw [hF_93 75 (by omega) (by omega)]; exact hm_72
                                have hm_105 : M_88 77 = some (aI G 12 (nF ap)) := by rw [hF_93 77 (by omega) (by omega)]; exact hm_73
                                have hm_106 : M_88 78 = some (aI G 48 pr) := by rw [hF_93 78 (by omega) (by omega)]; exact hm_74
                                have hm_107 : M_88 79 = some (aI G 48 pf) := by rw [hF_93 79 (by omega) (by omega)]; exact hm_75
                                have hF_108 : ∀ j : Nat, j ≠ 82 → j ≠ 83 → M_88 j = M j := fun j q0 q1 => (hF_93 j q0 q1).trans (hF_62 j q0 q1)
                                refine lv_iinc (v := nI (l9 + 1)) (lv' := [(3, .int (nI (l9 + 1))), (0, .ref (ad 60)), (1, .int d), (2, .int (nI i))]) hx hb dX10_asks_97 hl (k := 3) rfl (nI_add l9 1) (by decide) rfl (fun ls hl => ?_)
                                refine lv_goto (tgt := 58) hx hb dX10_asks_100 (by decide) ?_
                                exact ih_63 (l9 + 1) tr2_95 M_88 H_89 locs_90 ls (by omega) (by omega) (aI_yes htl (by assumption) (by assumption) hc_81 hP_94) hI hm_91 hm_92 (fun j q0 q1 => hF_108 j q0 q1) (lv_sub hl [1, 2, 3, 0] rfl)
                              · skip
                                refine lv_iconst (v := nI 0) hx hb dX10_asks_93 (by decide) ?_
                                refine k_Nv (va_runV (As := [.int (nI i), .int (nI l9), .int (nI 0)]) (rest := []) ⟨hx, hb, hml, hown, hts⟩ (c_X10_fits_1 l G z ad Mx (th := th) (ln := n) (on := on) (ao := ao) (vr := vr) (sn := sn) (tp := tp) (pt := pt) (zs := zs) (bg := bg) (fa := fa) (n := n) (kd := kd) (fm := fm) (to := to) (sz := sz) (rl := rl) (en := en) (mk := mk) (mf := mf) (mu := mu) (mz := mz) (rr := rr) (ee := ee) (lst := lst) (ap := ap) (pr := pr) (pf := pf) (ro := ro) (te := te) (tr := trY) (gv := gw) (i := i) (q := l9) (p9 := 0) hm_64 hm_68 hm_69 hm_70 hm_71 hm_73 hm_74 hm_75 hm_59 hm_60 hw hmr (by omega) (by omega) (by omega) hpp hgs hlst (by omega)) (cwV 3 hts (gV (lwg_of t_1331 rfl) (lwg_of t_1333 rfl) (lwg_of ts_41 rfl) (lwg_of t_13 rfl) (lwg_of t_1334 rfl)) rfl rfl rfl (by decide +kernel) ⟨Nat.le_of_ble_eq_true rfl, Nat.le_of_ble_eq_true rfl⟩) (hI.preV hm_64 rfl) rfl rfl hl.1 rfl (lv_room (Nat.le_of_ble_eq_true rfl)) dX10_asks_94 ⟨Nat.le_of_ble_eq_true rfl, Nat.le_of_ble_eq_true rfl⟩) hI (fun M_111 H_112 locs_113 hp_110 hI => ?_)
                                obtain ⟨tr2_118, hm_114, hm_115, hF_116, hP_117⟩ := hp_110
                                have hm_119 : M_111 60 = some (cModel ad th n on ao vr sn tp pt zs bg fa) := by rw [hF_116 60 (by omega) (by omega)]; exact hm_64
                                have hm_120 : M_111 65 = some (aI G 120 (nF mk)) := by rw [hF_116 65 (by omega) (by omega)]; exact hm_65
                                have hm_121 : M_111 66 = some (aI G 120 mf) := by rw [hF_116 66 (by omega) (by omega)]; exact hm_66
                                have hm_122 : M_111 67 = some (aI G 120 mu) := by rw [hF_116 67 (by omega) (by omega)]; exact hm_67
                                have hm_123 : M_111 68 = some (aI G 121 (nF mz)) := by rw [hF_116 68 (by omega) (by omega)]; exact hm_68
                                have hm_124 : M_111 69 = some (aI G 726 (nF rr)) := by rw [hF_116 69 (by omega) (by omega)]; exact hm_69
                                have hm_125 : M_111 70 = some (aI G 726 (nF ee)) := by rw [hF_116 70 (by omega) (by omega)]; exact hm_70
                                have hm_126 : M_111 71 = some (aI G 40 (nF lst)) := by rw [hF_116 71 (by omega) (by omega)]; exact hm_71
                                have hm_127 : M_111 75 = some (aI G 12 ak) := by rw [hF_116 75 (by omega) (by omega)]; exact hm_72
                                have hm_128 : M_111 77 = some (aI G 12 (nF ap)) := by rw [hF_116 77 (by omega) (by omega)]; exact hm_73
                                have hm_129 : M_111 78 = some (aI G 48 pr) := by rw [hF_116 78 (by omega) (by omega)]; exact hm_74
                                have hm_130 : M_111 79 = some (aI G 48 pf) := by rw [hF_116 79 (by omega) (by omega)]; exact hm_75
                                have hF_131 : ∀ j : Nat, j ≠ 82 → j ≠ 83 → M_111 j = M j := fun j q0 q1 => (hF_116 j q0 q1).trans (hF_62 j q0 q1)
                                refine lv_iinc (v := nI (l9 + 1)) (lv' := [(3, .int (nI (l9 + 1))), (0, .ref (ad 60)), (1, .int d), (2, .int (nI i))]) hx hb dX10_asks_97 hl (k := 3) rfl (nI_add l9 1) (by decide) rfl (fun ls hl => ?_)
                                refine lv_goto (tgt := 58) hx hb dX10_asks_100 (by decide) ?_
                                exact ih_63 (l9 + 1) tr2_118 M_111 H_112 locs_113 ls (by omega) (by omega) (aI_yes htl (by assumption) (by assumption) hc_82 hP_117) hI hm_114 hm_115 (fun j q0 q1 => hF_131 j q0 q1) (lv_sub hl [1, 2, 3, 0] rfl)
                              · skip
                                refine lv_iconst (v := nI 0) hx hb dX10_asks_93 (by decide) ?_
                                refine k_Nv (va_runV (As := [.int (nI i), .int (nI l9), .int (nI 0)]) (rest := []) ⟨hx, hb, hml, hown, hts⟩ (c_X10_fits_2 l G z ad Mx (th := th) (ln := n) (on := on) (ao := ao) (vr := vr) (sn := sn) (tp := tp) (pt := pt) (zs := zs) (bg := bg) (fa := fa) (n := n) (kd := kd) (fm := fm) (to := to) (sz := sz) (rl := rl) (en := en) (mk := mk) (mf := mf) (mu := mu) (mz := mz) (rr := rr) (ee := ee) (lst := lst) (ap := ap) (pr := pr) (pf := pf) (ro := ro) (te := te) (tr := trY) (gv := gw) (i := i) (q := l9) (p9 := 0) hm_64 hm_68 hm_69 hm_70 hm_71 hm_73 hm_74 hm_75 hm_59 hm_60 hw hmr (by omega) (by omega) (by omega) hpp hgs hlst (by omega)) (cwV 3 hts (gV (lwg_of t_1331 rfl) (lwg_of t_1333 rfl) (lwg_of ts_41 rfl) (lwg_of t_13 rfl) (lwg_of t_1334 rfl)) rfl rfl rfl (by decide +kernel) ⟨Nat.le_of_ble_eq_true rfl, Nat.le_of_ble_eq_true rfl⟩) (hI.preV hm_64 rfl) rfl rfl hl.1 rfl (lv_room (Nat.le_of_ble_eq_true rfl)) dX10_asks_94 ⟨Nat.le_of_ble_eq_true rfl, Nat.le_of_ble_eq_true rfl⟩) hI (fun M_134 H_135 locs_136 hp_133 hI => ?_)
                                obtain ⟨tr2_141, hm_137, hm_138, hF_139, hP_140⟩ := hp_133
                                have hm_142 : M_134 60 = some (cModel ad th n on ao vr sn tp pt zs bg fa) := by rw [hF_139 60 (by omega) (by omega)]; exact hm_64
                                have hm_143 : M_134 65 = some (aI G 120 (nF mk)) := by rw [hF_139 65 (by omega) (by omega)]; exact hm_65
                                have hm_144 : M_134 66 = some (aI G 120 mf) := by rw [hF_139 66 (by omega) (by omega)]; exact hm_66
                                have hm_145 : M_134 67 = some (aI G 120 mu) := by rw [hF_139 67 (by omega) (by omega)]; exact hm_67
                                have hm_146 : M_134 68 = some (aI G 121 (nF mz)) := by rw [hF_139 68 (by omega) (by omega)]; exact hm_68
                                have hm_147 : M_134 69 = some (aI G 726 (nF rr)) := by rw [hF_139 69 (by omega) (by omega)]; exact hm_69
                                have hm_148 : M_134 70 = some (aI G 726 (nF ee)) := by rw [hF_139 70 (by omega) (by omega)]; exact hm_70
                                have hm_149 : M_134 71 = some (aI G 40 (nF lst)) := by rw [hF_139 71 (by omega) (by omega)]; exact hm_71
                                have hm_150 : M_134 75 = some (aI G 12 ak) := by rw [hF_139 75 (by omega) (by omega)]; exact hm_72
                                have hm_151 : M_134 77 = some (aI G 12 (nF ap)) := by rw [hF_139 77 (by omega) (by omega)]; exact hm_73
                                have hm_152 : M_134 78 = some (aI G 48 pr) := by rw [hF_139 78 (by omega) (by omega)]; exact hm_74
                                have hm_153 : M_134 79 = some (aI G 48 pf) := by rw [hF_139 79 (by omega) (by omega)]; exact hm_75
                                have hF_154 : ∀ j : Nat, j ≠ 82 → j ≠ 83 → M_134 j = M j := fun j q0 q1 => (hF_139 j q0 q1).trans (hF_62 j q0 q1)
                                refine lv_iinc (v := nI (l9 + 1)) (lv' := [(3, .int (nI (l9 + 1))), (0, .ref (ad 60)), (1, .int d), (2, .int (nI i))]) hx hb dX10_asks_97 hl (k := 3) rfl (nI_add l9 1) (by decide) rfl (fun ls hl => ?_)
                                refine lv_goto (tgt := 58) hx hb dX10_asks_100 (by decide) ?_
                                exact ih_63 (l9 + 1) tr2_141 M_134 H_135 locs_136 ls (by omega) (by omega) (aI_yes htl (by assumption) (by assumption) hc_83 hP_140) hI hm_137 hm_138 (fun j q0 q1 => hF_154 j q0 q1) (lv_sub hl [1, 2, 3, 0] rfl)
                              · skip
                                refine lv_iconst (v := nI 0) hx hb dX10_asks_93 (by decide) ?_
                                refine k_Nv (va_runV (As := [.int (nI i), .int (nI l9), .int (nI 0)]) (rest := []) ⟨hx, hb, hml, hown, hts⟩ (c_X10_fits_3 l G z ad Mx (th := th) (ln := n) (on := on) (ao := ao) (vr := vr) (sn := sn) (tp := tp) (pt := pt) (zs := zs) (bg := bg) (fa := fa) (n := n) (kd := kd) (fm := fm) (to := to) (sz := sz) (rl := rl) (en := en) (mk := mk) (mf := mf) (mu := mu) (mz := mz) (rr := rr) (ee := ee) (lst := lst) (ap := ap) (pr := pr) (pf := pf) (ro := ro) (te := te) (tr := trY) (gv := gw) (i := i) (q := l9) (p9 := 0) hm_64 hm_68 hm_69 hm_70 hm_71 hm_73 hm_74 hm_75 hm_59 hm_60 hw hmr (by omega) (by omega) (by omega) hpp hgs hlst (by omega)) (cwV 3 hts (gV (lwg_of t_1331 rfl) (lwg_of t_1333 rfl) (lwg_of ts_41 rfl) (lwg_of t_13 rfl) (lwg_of t_1334 rfl)) rfl rfl rfl (by decide +kernel) ⟨Nat.le_of_ble_eq_true rfl, Nat.le_of_ble_eq_true rfl⟩) (hI.preV hm_64 rfl) rfl rfl hl.1 rfl (lv_room (Nat.le_of_ble_eq_true rfl)) dX10_asks_94 ⟨Nat.le_of_ble_eq_true rfl, Nat.le_of_ble_eq_true rfl⟩) hI (fun M_157 H_158 locs_159 hp_156 hI => ?_)
                                obtain ⟨tr2_164, hm_160, hm_161, hF_162, hP_163⟩ := hp_156
                                have hm_165 : M_157 60 = some (cModel ad th n on ao vr sn tp pt zs bg fa) := by rw [hF_162 60 (by omega) (by omega)]; exact hm_64
                                have hm_166 : M_157 65 = some (aI G 120 (nF mk)) := by rw [hF_162 65 (by omega) (by omega)]; exact hm_65
                                have hm_167 : M_157 66 = some (aI G 120 mf) := by rw [hF_162 66 (by omega) (by omega)]; exact hm_66
                                have hm_168 : M_157 67 = some (aI G 120 mu) := by rw [hF_162 67 (by omega) (by omega)]; exact hm_67
                                have hm_169 : M_157 68 = some (aI G 121 (nF mz)) := by rw [hF_162 68 (by omega) (by omega)]; exact hm_68
                                have hm_170 : M_157 69 = some (aI G 726 (nF rr)) := by rw [hF_162 69 (by omega) (by omega)]; exact hm_69
                                have hm_171 : M_157 70 = some (aI G 726 (nF ee)) := by rw [hF_162 70 (by omega) (by omega)]; exact hm_70
                                have hm_172 : M_157 71 = some (aI G 40 (nF lst)) := by rw [hF_162 71 (by omega) (by omega)]; exact hm_71
                                have hm_173 : M_157 75 = some (aI G 12 ak) := by rw [hF_162 75 (by omega) (by omega)]; exact hm_72
                                have hm_174 : M_157 77 = some (aI G 12 (nF ap)) := by rw [hF_162 77 (by omega) (by omega)]; exact hm_73
                                have hm_175 : M_157 78 = some (aI G 48 pr) := by rw [hF_162 78 (by omega) (by omega)]; exact hm_74
                                have hm_176 : M_157 79 = some (aI G 48 pf) := by rw [hF_162 79 (by omega) (by omega)]; exact hm_75
                                have hF_177 : ∀ j : Nat, j ≠ 82 → j ≠ 83 → M_157 j = M j := fun j q0 q1 => (hF_162 j q0 q1).trans (hF_62 j q0 q1)
                                refine lv_iinc (v := nI (l9 + 1)) (lv' := [(3, .int (nI (l9 + 1))), (0, .ref (ad 60)), (1, .int d), (2, .int (nI i))]) hx hb dX10_asks_97 hl (k := 3) rfl (nI_add l9 1) (by decide) rfl (fun ls hl => ?_)
                                refine lv_goto (tgt := 58) hx hb dX10_asks_100 (by decide) ?_
                                exact ih_63 (l9 + 1) tr2_164 M_157 H_158 locs_159 ls (by omega) (by omega) (aI_yes htl (by assumption) (by assumption) hc_84 hP_163) hI hm_160 hm_161 (fun j q0 q1 => hF_177 j q0 q1) (lv_sub hl [1, 2, 3, 0] rfl)
                              · skip
                                refine lv_iconst (v := nI 0) hx hb dX10_asks_93 (by decide) ?_
                                refine k_Nv (va_runV (As := [.int (nI i), .int (nI l9), .int (nI 0)]) (rest := []) ⟨hx, hb, hml, hown, hts⟩ (c_X10_fits_4 l G z ad Mx (th := th) (ln := n) (on := on) (ao := ao) (vr := vr) (sn := sn) (tp := tp) (pt := pt) (zs := zs) (bg := bg) (fa := fa) (n := n) (kd := kd) (fm := fm) (to := to) (sz := sz) (rl := rl) (en := en) (mk := mk) (mf := mf) (mu := mu) (mz := mz) (rr := rr) (ee := ee) (lst := lst) (ap := ap) (pr := pr) (pf := pf) (ro := ro) (te := te) (tr := trY) (gv := gw) (i := i) (q := l9) (p9 := 0) hm_64 hm_68 hm_69 hm_70 hm_71 hm_73 hm_74 hm_75 hm_59 hm_60 hw hmr (by omega) (by omega) (by omega) hpp hgs hlst (by omega)) (cwV 3 hts (gV (lwg_of t_1331 rfl) (lwg_of t_1333 rfl) (lwg_of ts_41 rfl) (lwg_of t_13 rfl) (lwg_of t_1334 rfl)) rfl rfl rfl (by decide +kernel) ⟨Nat.le_of_ble_eq_true rfl, Nat.le_of_ble_eq_true rfl⟩) (hI.preV hm_64 rfl) rfl rfl hl.1 rfl (lv_room (Nat.le_of_ble_eq_true rfl)) dX10_asks_94 ⟨Nat.le_of_ble_eq_true rfl, Nat.le_of_ble_eq_true rfl⟩) hI (fun M_180 H_181 locs_182 hp_179 hI => ?_)
                                obtain ⟨tr2_187, hm_183, hm_184, hF_185, hP_186⟩ := hp_179
                                have hm_188 : M_180 60 = some (cModel ad th n on ao vr sn tp pt zs bg fa) := by rw [hF_185 60 (by omega) (by omega)]; exact hm_64
                                have hm_189 : M_180 65 = some (aI G 120 (nF mk)) := by rw [hF_185 65 (by omega) (by omega)]; exact hm_65
                                have hm_190 : M_180 66 = some (aI G 120 mf) := by rw [hF_185 66 (by omega) (by omega)]; exact hm_66
                                have hm_191 : M_180 67 = some (aI G 120 mu) := by rw [hF_185 67 (by omega) (by omega)]; exact hm_67
                                have hm_192 : M_180 68 = some (aI G 121 (nF mz)) := by rw [hF_185 68 (by omega) (by omega)]; exact hm_68
                                have hm_193 : M_180 69 = some (aI G 726 (nF rr)) := by rw [hF_185 69 (by omega) (by omega)]; exact hm_69
                                have hm_194 : M_180 70 = some (aI G 726 (nF ee)) := by rw [hF_185 70 (by omega) (by omega)]; exact hm_70
                                have hm_195 : M_180 71 = some (aI G 40 (nF lst)) := by rw [hF_185 71 (by omega) (by omega)]; exact hm_71
                                have hm_196 : M_180 75 = some (aI G 12 ak) := by rw [hF_185 75 (by omega) (by omega)]; exact hm_72
                                have hm_197 : M_180 77 = some (aI G 12 (nF ap)) := by rw [hF_185 77 (by omega) (by omega)]; exact hm_73
                                have hm_198 : M_180 78 = some (aI G 48 pr) := by rw [hF_185 78 (by omega) (by omega)]; exact hm_74
                                have hm_199 : M_180 79 = some (aI G 48 pf) := by rw [hF_185 79 (by omega) (by omega)]; exact hm_75
                                have hF_200 : ∀ j : Nat, j ≠ 82 → j ≠ 83 → M_180 j = M j := fun j q0 q1 => (hF_185 j q0 q1).trans (hF_62 j q0 q1)
                                refine lv_iinc (v := nI (l9 + 1)) (lv' := [(3, .int (nI (l9 + 1))), (0, .ref (ad 60)), (1, .int d), (2, .int (nI i))]) hx hb dX10_asks_97 hl (k := 3) rfl (nI_add l9 1) (by decide) rfl (fun ls hl => ?_)
                                refine lv_goto (tgt := 58) hx hb dX10_asks_100 (by decide) ?_
                                exact ih_63 (l9 + 1) tr2_187 M_180 H_181 locs_182 ls (by omega) (by omega) (aI_yes htl (by assumption) (by assumption) hc_85 hP_186) hI hm_183 hm_184 (fun j q0 q1 => hF_200 j q0 q1) (lv_sub hl [1, 2, 3, 0] rfl)
                    exact lp58_58 ((n - 0) + 1) 0 trx Mx Hx locsx ls (Nat.lt_succ_self _) (by omega) (hti) hI hm_40 hm_41 (fun j q0 q1 => hF_43 j q0 q1) (lv_sub hl [1, 2, 3, 0] rfl)
              exact lp48_39 ((ao - 0) + 1) 0 t0 Mx Hx locsx ls (Nat.lt_succ_self _) (by omega) (aI_0 (fun x hx => ht0 x (by omega))) hI hm_21 hm_22 (fun j q0 q1 => hF_24 j q0 q1) (lv_sub hl [1, 2, 0] rfl)
            · -- 30: nI k2 lt
              have c_38 : k2 < 3 := by have h := mt (nI_leI (a := 3) (b := k2) (by omega) (by omega)).mpr c_38; omega
              refine lv_aload_n hx hb dX10_asks_33 rfl (lv_at hl 0 rfl) ?_
              refine h_get (C := RX10) (T := TX10) (N := 38) hx hb hts i_RX10 hown hI hm_26 rfl 33 (by decide) f_86 rfl rfl dX10_asks_34 ?_
              refine lv_iload_n hx hb dX10_asks_37 rfl (lv_at hl 2 rfl) ?_
              refine lv_iconst (v := (-1)) hx hb dX10_asks_38 (by decide) ?_
              refine h_iast (i := k2) (x := (-1)) hx hb hI hm_22 (by omega) (by decide) dX10_asks_39 (fun M_201 H_202 locs_203 eM_204 hI => ?_)
              rw [upd_oF_m1] at eM_204
              have hm_205 : M_201 60 = some (cModel ad th n on ao vr sn tp pt zs bg fa) := by rw [eM_204, va_up_ne _ _ (by decide)]; exact hm_26
              have hm_206 : M_201 65 = some (aI G 120 (nF mk)) := by rw [eM_204, va_up_ne _ _ (by decide)]; exact hm_27
              have hm_207 : M_201 66 = some (aI G 120 mf) := by rw [eM_204, va_up_ne _ _ (by decide)]; exact hm_28
              have hm_208 : M_201 67 = some (aI G 120 mu) := by rw [eM_204, va_up_ne _ _ (by decide)]; exact hm_29
              have hm_209 : M_201 68 = some (aI G 121 (nF mz)) := by rw [eM_204, va_up_ne _ _ (by decide)]; exact hm_30
              have hm_210 : M_201 69 = some (aI G 726 (nF rr)) := by rw [eM_204, va_up_ne _ _ (by decide)]; exact hm_31
              have hm_211 : M_201 70 = some (aI G 726 (nF ee)) := by rw [eM_204, va_up_ne _ _ (by decide)]; exact hm_32
              have hm_212 : M_201 71 = some (aI G 40 (nF lst)) := by rw [eM_204, va_up_ne _ _ (by decide)]; exact hm_33
              have hm_213 : M_201 75 = some (aI G 12 ak) := by rw [eM_204, va_up_ne _ _ (by decide)]; exact hm_34
              have hm_214 : M_201 77 = some (aI G 12 (nF ap)) := by rw [eM_204, va_up_ne _ _ (by decide)]; exact hm_35
              have hm_215 : M_201 78 = some (aI G 48 pr) := by rw [eM_204, va_up_ne _ _ (by decide)]; exact hm_36
              have hm_216 : M_201 79 = some (aI G 48 pf) := by rw [eM_204, va_up_ne _ _ (by decide)]; exact hm_37
              have hm_217 : M_201 82 = some (aZ G 384000 (bF t0)) := by rw [eM_204, va_up_ne _ _ (by decide)]; exact hm_21
              have hm_218 : M_201 83 = some (aI G 3 (oF (va_up gw k2 none))) := by rw [eM_204]; exact va_up_self _ _ _
              have hF_219 : ∀ j : Nat, j ≠ 82 → j ≠ 83 → M_201 j = M j := fun j q0 q1 => by rw [eM_204, va_up_ne _ _ q1]; exact hF_24 j q0 q1
              refine lv_iinc (v := nI (k2 + 1)) (lv' := [(2, .int (nI (k2 + 1))), (0, .ref (ad 60)), (1, .int d)]) hx hb dX10_asks_40 hl (k := 2) rfl (nI_add k2 1) (by decide) rfl (fun ls hl => ?_)
              refine lv_goto (tgt := 28) hx hb dX10_asks_43 (by decide) ?_
              exact ih_25 (k2 + 1) (va_up gw k2 none) M_201 H_202 locs_203 ls (by omega) (by omega) (lt_s2 (fun j hj => (va_up_ne _ _ (by omega)).trans (hgw j hj)) (va_up_self _ _ _)) hI hm_217 hm_218 (fun j q0 q1 => hF_219 j q0 q1) (lv_sub hl [1, 2, 0] rfl)
        exact lp28_20 ((3 - 0) + 1) 0 gv Mx Hx locsx ls (Nat.lt_succ_self _) (by omega) (fun j hj => absurd hj (Nat.not_lt_zero j)) hI hm_2 hm_18 (fun j q0 q1 => hF_4 j q0) (lv_sub hl [1, 2, 0] rfl)
      · -- 10: nI k lt
        have c_19 : k < ao * 64000 := by have h := mt (nI_leI (a := ao * 64000) (b := k) (by omega) (by omega)).mpr c_19; omega
        refine lv_aload_n hx hb dX10_asks_13 rfl (lv_at hl 0 rfl) ?_
        refine h_get (C := RX10) (T := TX10) (N := 38) hx hb hts i_RX10 hown hI hm_6 rfl 32 (by decide) f_83 rfl rfl dX10_asks_14 ?_
        refine lv_iload_n hx hb dX10_asks_17 rfl (lv_at hl 2 rfl) ?_
        refine lv_iconst (v := nI 0) hx hb dX10_asks_18 (by decide) ?_
        refine h_zast (i := k) (x := nI 0) hx hb hI hm_2 (by omega) (by decide) rfl dX10_asks_19 (fun M_220 H_221 locs_222 eM_223 hI => ?_)
        rw [upd_bF_0] at eM_223
        have hm_224 : M_220 60 = some (cModel ad th n on ao vr sn tp pt zs bg fa) := by rw [eM_223, va_up_ne _ _ (by decide)]; exact hm_6
        have hm_225 : M_220 65 = some (aI G 120 (nF mk)) := by rw [eM_223, va_up_ne _ _ (by decide)]; exact hm_7
        have hm_226 : M_220 66 = some (aI G 120 mf) := by rw [eM_223, va_up_ne _ _ (by decide)]; exact hm_8
        have hm_227 : M_220 67 = some (aI G 120 mu) := by rw [eM_223, va_up_ne _ _ (by decide)]; exact hm_9
        have hm_228 : M_220 68 = some (aI G 121 (nF mz)) := by rw [eM_223, va_up_ne _ _ (by decide)]; exact hm_10
        have hm_229 : M_220 69 = some (aI G 726 (nF rr)) := by rw [eM_223, va_up_ne _ _ (by decide)]; exact hm_11
        have hm_230 : M_220 70 = some (aI G 726 (nF ee)) := by rw [eM_223, va_up_ne _ _ (by decide)]; exact hm_12
        have hm_231 : M_220 71 = some (aI G 40 (nF lst)) := by rw [eM_223, va_up_ne _ _ (by decide)]; exact hm_13
        have hm_232 : M_220 75 = some (aI G 12 ak) := by rw [eM_223, va_up_ne _ _ (by decide)]; exact hm_14
        have hm_233 : M_220 77 = some (aI G 12 (nF ap)) := by rw [eM_223, va_up_ne _ _ (by decide)]; exact hm_15
        have hm_234 : M_220 78 = some (aI G 48 pr) := by rw [eM_223, va_up_ne _ _ (by decide)]; exact hm_16
        have hm_235 : M_220 79 = some (aI G 48 pf) := by rw [eM_223, va_up_ne _ _ (by decide)]; exact hm_17
        have hm_236 : M_220 83 = some (aI G 3 (oF gv)) := by rw [eM_223, va_up_ne _ _ (by decide)]; exact hm_18
        have hm_237 : M_220 82 = some (aZ G 384000 (bF (va_up t0 k false))) := by rw [eM_223]; exact va_up_self _ _ _
        have hF_238 : ∀ j : Nat, j ≠ 82 → M_220 j = M j := fun j q0 => by rw [eM_223, va_up_ne _ _ q0]; exact hF_4 j q0
        refine lv_iinc (v := nI (k + 1)) (lv' := [(2, .int (nI (k + 1))), (0, .ref (ad 60)), (1, .int d)]) hx hb dX10_asks_20 hl (k := 2) rfl (nI_add k 1) (by decide) rfl (fun ls hl => ?_)
        refine lv_goto (tgt := 2) hx hb dX10_asks_23 (by decide) ?_
        exact ih_5 (k + 1) (va_up t0 k false) M_220 H_221 locs_222 ls (by omega) (by omega) (lt_s2 (fun j hj => (va_up_ne _ _ (by omega)).trans (ht0 j hj)) (va_up_self _ _ _)) hI hm_237 (fun j q0 => hF_238 j q0) (lv_sub hl [1, 2, 0] rfl)
  exact lp2_1 ((ao * 64000 - 0) + 1) 0 tr M s.heap [] ls (Nat.lt_succ_self _) (by omega) (fun j hj => absurd hj (Nat.not_lt_zero j)) hI h82 (fun j _ => rfl) (lv_sub hl [1, 2, 0] rfl)
