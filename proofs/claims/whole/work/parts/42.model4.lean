/-- what a thing counts as behind k joins -/
def asK (oa ob : Nat → Nat) : Nat → Nat → Nat
  | 0, t => t
  | k + 1, t => if asK oa ob k t = asK oa ob k (oa k) ∨ asK oa ob k t = asK oa ob k (ob k) then min (asK oa ob k (oa k)) (asK oa ob k (ob k)) else asK oa ob k t
theorem asK_lt {oa ob : Nat → Nat} {k : Nat} (h : ∀ i, i < k → oa i < 40 ∧ ob i < 40) : ∀ t, t < 40 → asK oa ob k t < 40 := by
  induction k with
  | zero => exact fun t ht => ht
  | succ k ih =>
    intro t ht
    have i1 := ih (fun i hi => h i (by omega))
    have h1 := i1 (oa k) (h k (by omega)).1
    have h2 := i1 (ob k) (h k (by omega)).2
    have h3 := i1 t ht
    simp only [asK]
    split <;> omega
def asG (oa ob : Nat → Nat) (k t : Nat) (g : Nat → Nat) : Prop := ∀ u, u < 40 → g u = if u < t then asK oa ob (k + 1) u else asK oa ob k u
section AG
variable {oa ob g : Nat → Nat} {k t v : Nat}
theorem asG_at (h : asG oa ob k t g) (ht : t < 40) : g t = asK oa ob k t := by rw [h t ht, if_neg (Nat.lt_irrefl t)]
theorem asG_up (h : asG oa ob k t g) (hv : v = asK oa ob (k + 1) t) : asG oa ob k (t + 1) (va_up g t v) := fun u hu => by
  by_cases e : u = t
  · subst e; rw [va_up_self, if_pos (Nat.lt_succ_self u)]; exact hv
  · rw [va_up_ne _ _ e, h u hu]
    by_cases h2 : u < t
    · rw [if_pos h2, if_pos (by omega)]
    · rw [if_neg h2, if_neg (by omega)]
theorem asG_no (h : asG oa ob k t g) (hv : asK oa ob k t = asK oa ob (k + 1) t) : asG oa ob k (t + 1) g := fun u hu => by
  rw [h u hu]
  by_cases e : u = t
  · subst e; rw [if_neg (Nat.lt_irrefl u), if_pos (Nat.lt_succ_self u)]; exact hv
  · by_cases h2 : u < t
    · rw [if_pos h2, if_pos (by omega)]
    · rw [if_neg h2, if_neg (by omega)]
theorem asK_y (h : asK oa ob k t = asK oa ob k (oa k) ∨ asK oa ob k t = asK oa ob k (ob k)) : min (asK oa ob k (oa k)) (asK oa ob k (ob k)) = asK oa ob (k + 1) t := by rw [asK, if_pos h]
theorem asK_n (h1 : asK oa ob k t ≠ asK oa ob k (oa k)) (h2 : asK oa ob k t ≠ asK oa ob k (ob k)) : asK oa ob k t = asK oa ob (k + 1) t := by rw [asK, if_neg (by rintro (h | h) <;> contradiction)]
end AG

/-- X10_counts -/
abbrev rm_c_X10_counts : Room := { frames := 1, cells := 0, slots := 0, locals := 30 }
set_option maxHeartbeats 4000000 in
set_option maxRecDepth 100000 in
theorem c_X10_counts (l : Launch) (G : GG) (z : Nat) (ad : Nat → Nat) (M : Mem) {th : Nat} {ln : Nat} {on : Nat} {ao : Nat} {vr : Nat} {sn : Nat} {tp : Nat} {pt : Nat} {zs : Nat} {bg : Nat} {fa : Int32} {lst : Nat → Nat} {oa : Nat → Nat} {ob : Nat → Nat} (h60 : M 60 = some (cModel ad th ln on ao vr sn tp pt zs bg fa)) (h71 : M 71 = some (aI G 40 (nF lst))) (h72 : M 72 = some (aI G 40 (nF oa))) (h73 : M 73 = some (aI G 40 (nF ob))) (hon : on ≤ 40) (hab : ∀ i, i < on → oa i < 40 ∧ ob i < 40) : Met l yX10_counts wsX10_counts rm_c_X10_counts (Pr G z ad M [.ref (ad 60)]) (Nv G z ad (fun (M' : Mem) => ∃ l2 : Nat → Nat, M' 71 = some (aI G 40 (nF l2)) ∧ (∀ j : Nat, j ≠ 71 → M' j = M j) ∧ (∀ t, t < 40 → l2 t = asK oa ob on t))) 0 0 (fr z) := by
  refine Met.ofW (cc := cX10_counts) (maxL := 5) (ret := none) (by decide) rfl ?_
  intro p e s m args below meth c s₁ B hml hv
  obtain ⟨rfl, hv⟩ := hv
  have hI := Iv.entry hv
  have hx := B.exec
  have hb := B.bytes
  have hr := B.returns
  have hts := atoms_spec (ws := wsX10_counts) B.pre
  have hown : s.vm.findClass RX10 = some m.cls := findClass_of_methodNamed B.named
  have hlocks := B.notSynchronized
  have i_RX10 : ∀ w ∈ u_ws RX10 TX10 38, w ∈ wsX10_counts := fun w h => List.mem_cons_of_mem _ (iu_X10 w h)
  have f_152 := hts _ (List.mem_cons_of_mem _ (lwg_of t_1028 rfl))
  have f_45 := hts _ (List.mem_cons_of_mem _ (lwg_of t_1025 rfl))
  have f_48 := hts _ (List.mem_cons_of_mem _ (lwg_of t_1026 rfl))
  have f_51 := hts _ (List.mem_cons_of_mem _ (lwg_of t_1027 rfl))
  have m_155 := hts _ (List.mem_cons_of_mem _ (lwg_of t_1012 rfl))
  have s_mmin := hts _ (List.mem_cons_of_mem _ (lwg_of t_740 rfl))
  have s_mi := hts _ (List.mem_cons_of_mem _ (lwg_of t_14 rfl))
  have s_mcmin := hts _ (List.mem_cons_of_mem _ (lwg_of t_741 rfl))
  have hl := lv_entry ([.ref (ad 60)]) (n := 5) (Nat.le_of_ble_eq_true rfl)
  rw [lg_entry_eq]
  generalize (lg_sl ([.ref (ad 60)]) ++ List.replicate (5 - (lg_sl ([.ref (ad 60)])).length) Slot.unset).toArray = ls at hl ⊢
  have hl : lv_has ls 5 [(0, .ref (ad 60))] := hl
  refine w_q (fun Q hQ => ?_)
  refine lv_iconst (v := nI 0) hx hb dX10_counts_0 (by decide) ?_
  refine lv_istore_n (lv' := [(1, .int (nI 0)), (0, .ref (ad 60))]) hx hb dX10_counts_1 rfl hl (by decide) rfl (fun ls hl => ?_)
  have lp2_1 : ∀ (fuel : Nat) (i : Nat) (g : Nat → Nat) (Mx : Mem) (Hx : Heap) (locsx : List Loc) (ls : Array Slot), (40 - i) < fuel → (i ≤ 40) → (∀ t, t < i → g t = t) → Iv G z ad Mx s Hx locsx → Mx 71 = some (aI G 40 (nF g)) → (∀ j : Nat, j ≠ 71 → Mx j = M j) → lv_has ls 5 [(0, .ref (ad 60)), (1, .int (nI i))] → W p l e (headSpec wsX10_counts rm_c_X10_counts).room s m ([.ref (ad 60)] : List Value).toArray below meth c Hx locsx 0 0 Q (F0 m 2 ls []) := by
    intro fuel
    induction fuel with
    | zero => intro i g Mx Hx locsx ls hfu hi hg hI hm_2 hF_4 hl; exact absurd hfu (Nat.not_lt_zero _)
    | succ fuel ih_5 =>
      intro i g Mx Hx locsx ls hfu hi hg hI hm_2 hF_4 hl
      have hm_6 : Mx 60 = some (cModel ad th ln on ao vr sn tp pt zs bg fa) := by rw [hF_4 60 (by omega)]; exact h60
      have hm_7 : Mx 72 = some (aI G 40 (nF oa)) := by rw [hF_4 72 (by omega)]; exact h72
      have hm_8 : Mx 73 = some (aI G 40 (nF ob)) := by rw [hF_4 73 (by omega)]; exact h73
      refine lv_iload_n hx hb dX10_counts_2 rfl (lv_at hl 1 rfl) ?_
      refine lv_bipush (v := nI 40) hx hb dX10_counts_3 (by decide) ?_
      refine lv_icmp_ge (tgt := 21) hx hb dX10_counts_5 (by decide) (fun c_9 => ?_) (fun c_9 => ?_)
      · -- 5: nI i ge
        have c_9 : 40 ≤ i := (nI_leI (a := 40) (b := i) (by omega) (by omega)).mp (c_9)
        refine lv_iconst (v := nI 0) hx hb dX10_counts_21 (by decide) ?_
        refine lv_istore_n (lv' := [(1, .int (nI 0)), (0, .ref (ad 60))]) hx hb dX10_counts_22 rfl hl (by decide) rfl (fun ls hl => ?_)
        have lp23_10 : ∀ (fuel : Nat) (k : Nat) (g2 : Nat → Nat) (Mx : Mem) (Hx : Heap) (locsx : List Loc) (ls : Array Slot), (on - k) < fuel → (k ≤ on) → (∀ t, t < 40 → g2 t = asK oa ob k t) → Iv G z ad Mx s Hx locsx → Mx 71 = some (aI G 40 (nF g2)) → (∀ j : Nat, j ≠ 71 → Mx j = M j) → lv_has ls 5 [(0, .ref (ad 60)), (1, .int (nI k))] → W p l e (headSpec wsX10_counts rm_c_X10_counts).room s m ([.ref (ad 60)] : List Value).toArray below meth c Hx locsx 0 0 Q (F0 m 23 ls []) := by
          intro fuel
          induction fuel with
          | zero => intro k g2 Mx Hx locsx ls hfu hk hg2 hI hm_11 hF_13 hl; exact absurd hfu (Nat.not_lt_zero _)
          | succ fuel ih_14 =>
            intro k g2 Mx Hx locsx ls hfu hk hg2 hI hm_11 hF_13 hl
            have hm_15 : Mx 60 = some (cModel ad th ln on ao vr sn tp pt zs bg fa) := by rw [hF_13 60 (by omega)]; exact h60
            have hm_16 : Mx 72 = some (aI G 40 (nF oa)) := by rw [hF_13 72 (by omega)]; exact h72
            have hm_17 : Mx 73 = some (aI G 40 (nF ob)) := by rw [hF_13 73 (by omega)]; exact h73
            refine lv_iload_n hx hb dX10_counts_23 rfl (lv_at hl 1 rfl) ?_
            refine lv_aload_n hx hb dX10_counts_24 rfl (lv_at hl 0 rfl) ?_
            refine h_get (C := RX10) (T := TX10) (N := 38) hx hb hts i_RX10 hown hI hm_15 rfl 15 (by decide) f_152 rfl rfl dX10_counts_25 ?_
            refine lv_icmp_ge (tgt := 111) hx hb dX10_counts_28 (by decide) (fun c_18 => ?_) (fun c_18 => ?_)
            · -- 28: nI k ge
              have c_18 : on ≤ k := (nI_leI (a := on) (b := k) (by omega) (by omega)).mp (c_18)
              subst hQ
              exact e_Nv hx hb hr hlocks hI ⟨g2, hm_11, (fun j q0 => hF_13 j q0), (fun t ht => by rw [hg2 t ht, show k = on by omega])⟩ dX10_counts_111
            · -- 28: nI k lt
              have c_18 : k < on := by have h := mt (nI_leI (a := on) (b := k) (by omega) (by omega)).mpr c_18; omega
              obtain ⟨hoa, hob⟩ := hab k (by omega)
              have hlt := asK_lt (oa := oa) (ob := ob) (k := k) (fun i hi => hab i (by omega))
              have hla := hlt (oa k) hoa
              have hlb := hlt (ob k) hob
              refine lv_aload_n hx hb dX10_counts_31 rfl (lv_at hl 0 rfl) ?_
              refine h_get (C := RX10) (T := TX10) (N := 38) hx hb hts i_RX10 hown hI hm_15 rfl 12 (by decide) f_45 rfl rfl dX10_counts_32 ?_
              refine lv_aload_n hx hb dX10_counts_35 rfl (lv_at hl 0 rfl) ?_
              refine h_get (C := RX10) (T := TX10) (N := 38) hx hb hts i_RX10 hown hI hm_15 rfl 13 (by decide) f_48 rfl rfl dX10_counts_36 ?_
              refine lv_iload_n hx hb dX10_counts_39 rfl (lv_at hl 1 rfl) ?_
              refine h_iald (i := k) hx hb hI hm_16 (by omega) (by decide) dX10_counts_40 ?_
              refine h_iald (i := oa k) hx hb hI hm_11 (by omega) (by decide) dX10_counts_41 ?_
              refine n_eq (show _ = nI (asK oa ob k (oa k)) from congrArg nI (hg2 _ hoa)) ?_
              refine lv_istore_n (lv' := [(2, .int (nI (asK oa ob k (oa k)))), (0, .ref (ad 60)), (1, .int (nI k))]) hx hb dX10_counts_42 rfl hl (by decide) rfl (fun ls hl => ?_)
              refine lv_aload_n hx hb dX10_counts_43 rfl (lv_at hl 1 rfl) ?_
              refine h_get (C := RX10) (T := TX10) (N := 38) hx hb hts i_RX10 hown hI hm_15 rfl 12 (by decide) f_45 rfl rfl dX10_counts_44 ?_
              refine lv_aload_n hx hb dX10_counts_47 rfl (lv_at hl 1 rfl) ?_
              refine h_get (C := RX10) (T := TX10) (N := 38) hx hb hts i_RX10 hown hI hm_15 rfl 14 (by decide) f_51 rfl rfl dX10_counts_48 ?_
              refine lv_iload_n hx hb dX10_counts_51 rfl (lv_at hl 2 rfl) ?_
              refine h_iald (i := k) hx hb hI hm_17 (by omega) (by decide) dX10_counts_52 ?_
              refine h_iald (i := ob k) hx hb hI hm_11 (by omega) (by decide) dX10_counts_53 ?_
              refine n_eq (show _ = nI (asK oa ob k (ob k)) from congrArg nI (hg2 _ hob)) ?_
              refine lv_istore_n (lv' := [(3, .int (nI (asK oa ob k (ob k)))), (2, .int (nI (asK oa ob k (oa k)))), (0, .ref (ad 60)), (1, .int (nI k))]) hx hb dX10_counts_54 rfl hl (by decide) rfl (fun ls hl => ?_)
              refine lv_iconst (v := nI 0) hx hb dX10_counts_55 (by decide) ?_
              refine lv_istore (lv' := [(4, .int (nI 0)), (3, .int (nI (asK oa ob k (ob k)))), (2, .int (nI (asK oa ob k (oa k)))), (0, .ref (ad 60)), (1, .int (nI k))]) hx hb dX10_counts_56 hl (by decide) rfl (fun ls hl => ?_)
              have lp58_19 : ∀ (fuel : Nat) (t : Nat) (g3 : Nat → Nat) (Mx : Mem) (Hx : Heap) (locsx : List Loc) (ls : Array Slot), (40 - t) < fuel → (t ≤ 40) → (asG oa ob k t g3) → Iv G z ad Mx s Hx locsx → Mx 71 = some (aI G 40 (nF g3)) → (∀ j : Nat, j ≠ 71 → Mx j = M j) → lv_has ls 5 [(0, .ref (ad 60)), (1, .int (nI k)), (2, .int (nI (asK oa ob k (oa k)))), (3, .int (nI (asK oa ob k (ob k)))), (4, .int (nI t))] → W p l e (headSpec wsX10_counts rm_c_X10_counts).room s m ([.ref (ad 60)] : List Value).toArray below meth c Hx locsx 0 0 Q (F0 m 58 ls []) := by
                intro fuel
                induction fuel with
                | zero => intro t g3 Mx Hx locsx ls hfu ht hg3 hI hm_20 hF_22 hl; exact absurd hfu (Nat.not_lt_zero _)
                | succ fuel ih_23 =>
                  intro t g3 Mx Hx locsx ls hfu ht hg3 hI hm_20 hF_22 hl
                  have hm_24 : Mx 60 = some (cModel ad th ln on ao vr sn tp pt zs bg fa) := by rw [hF_22 60 (by omega)]; exact h60
                  have hm_25 : Mx 72 = some (aI G 40 (nF oa)) := by rw [hF_22 72 (by omega)]; exact h72
                  have hm_26 : Mx 73 = some (aI G 40 (nF ob)) := by rw [hF_22 73 (by omega)]; exact h73
                  refine lv_iload hx hb dX10_counts_58 (lv_at hl 4 rfl) ?_
                  refine lv_bipush (v := nI 40) hx hb dX10_counts_60 (by decide) ?_
                  refine lv_icmp_ge (tgt := 105) hx hb dX10_counts_62 (by decide) (fun c_27 => ?_) (fun c_27 => ?_)
                  · -- 62: nI t ge
                    have c_27 : 40 ≤ t := (nI_leI (a := 40) (b := t) (by omega) (by omega)).mp (c_27)
                    refine lv_iinc (v := nI (k + 1)) (lv' := [(1, .int (nI (k + 1))), (0, .ref (ad 60)), (2, .int (nI (asK oa ob k (oa k)))), (3, .int (nI (asK oa ob k (ob k)))), (4, .int (nI t))]) hx hb dX10_counts_105 hl (k := 1) rfl (nI_add k 1) (by decide) rfl (fun ls hl => ?_)
                    refine lv_goto (tgt := 23) hx hb dX10_counts_108 (by decide) ?_
                    exact ih_14 (k + 1) g3 Mx Hx locsx ls (by omega) (by omega) (fun u hu => by rw [hg3 u hu, if_pos (by omega)]) hI hm_20 (fun j q0 => hF_22 j q0) (lv_sub hl [1, 0] rfl)
                  · -- 62: nI t lt
                    have c_27 : t < 40 := by have h := mt (nI_leI (a := 40) (b := t) (by omega) (by omega)).mpr c_27; omega
                    have hl4 := hlt t (by omega)
                    refine lv_aload_n hx hb dX10_counts_65 rfl (lv_at hl 0 rfl) ?_
                    refine h_get (C := RX10) (T := TX10) (N := 38) hx hb hts i_RX10 hown hI hm_24 rfl 12 (by decide) f_45 rfl rfl dX10_counts_66 ?_
                    refine lv_iload hx hb dX10_counts_69 (lv_at hl 4 rfl) ?_
                    refine h_iald (i := t) hx hb hI hm_20 (by omega) (by decide) dX10_counts_71 ?_
                    refine n_eq (show _ = nI (asK oa ob k t) from congrArg nI (asG_at hg3 (by omega))) ?_
                    refine lv_iload_n hx hb dX10_counts_72 rfl (lv_at hl 2 rfl) ?_
                    refine lv_icmp_eq (tgt := 87) hx hb dX10_counts_73 (by decide) (fun c_28 => ?_) (fun c_28 => ?_)
                    · -- 73: nI (asK oa ob k t) eq
                      have c_28 : asK oa ob k t = asK oa ob k (oa k) := (nI_eq (a := asK oa ob k t) (b := asK oa ob k (oa k)) (by omega) (by omega)).mp (c_28)
                      refine lv_aload_n hx hb dX10_counts_87 rfl (lv_at hl 0 rfl) ?_
                      refine h_get (C := RX10) (T := TX10) (N := 38) hx hb hts i_RX10 hown hI hm_24 rfl 12 (by decide) f_45 rfl rfl dX10_counts_88 ?_
                      refine lv_iload hx hb dX10_counts_91 (lv_at hl 4 rfl) ?_
                      refine lv_iload_n hx hb dX10_counts_93 rfl (lv_at hl 2 rfl) ?_
                      refine lv_iload_n hx hb dX10_counts_94 rfl (lv_at hl 3 rfl) ?_
                      refine va_mmin hx hb (by rw [hml]; exact hl.1.symm) hown m_155 s_mmin s_mi s_mcmin (Nat.le_of_ble_eq_true rfl) (Nat.le_of_ble_eq_true rfl) (Nat.le_of_ble_eq_true rfl) (Nat.le_of_ble_eq_true rfl) dX10_counts_95 ?_
                      refine n_eq (show _ = nI (min (asK oa ob k (oa k)) (asK oa ob k (ob k))) from mmin_n (by omega) (by omega)) ?_
                      refine h_iast (i := t) (x := nI (min (asK oa ob k (oa k)) (asK oa ob k (ob k)))) hx hb hI hm_20 (by omega) (by decide) dX10_counts_98 (fun M_29 H_30 locs_31 eM_32 hI => ?_)
                      rw [upd_nF] at eM_32
                      have hm_33 : M_29 60 = some (cModel ad th ln on ao vr sn tp pt zs bg fa) := by rw [eM_32, va_up_ne _ _ (by decide)]; exact hm_24
                      have hm_34 : M_29 72 = some (aI G 40 (nF oa)) := by rw [eM_32, va_up_ne _ _ (by decide)]; exact hm_25
                      have hm_35 : M_29 73 = some (aI G 40 (nF ob)) := by rw [eM_32, va_up_ne _ _ (by decide)]; exact hm_26
                      have hm_36 : M_29 71 = some (aI G 40 (nF (va_up g3 t (min (asK oa ob k (oa k)) (asK oa ob k (ob k)))))) := by rw [eM_32]; exact va_up_self _ _ _
                      have hF_37 : ∀ j : Nat, j ≠ 71 → M_29 j = M j := fun j q0 => by rw [eM_32, va_up_ne _ _ q0]; exact hF_22 j q0
                      refine lv_iinc (v := nI (t + 1)) (lv' := [(4, .int (nI (t + 1))), (0, .ref (ad 60)), (1, .int (nI k)), (2, .int (nI (asK oa ob k (oa k)))), (3, .int (nI (asK oa ob k (ob k))))]) hx hb dX10_counts_99 hl (k := 4) rfl (nI_add t 1) (by decide) rfl (fun ls hl => ?_)
                      refine lv_goto (tgt := 58) hx hb dX10_counts_102 (by decide) ?_
                      exact ih_23 (t + 1) (va_up g3 t (min (asK oa ob k (oa k)) (asK oa ob k (ob k)))) M_29 H_30 locs_31 ls (by omega) (by omega) (asG_up hg3 (asK_y (Or.inl (by assumption)))) hI hm_36 (fun j q0 => hF_37 j q0) (lv_sub hl [1, 2, 3, 4, 0] rfl)
                    · -- 73: nI (asK oa ob k t) ne
                      have c_28 : asK oa ob k t ≠ asK oa ob k (oa k) := by have h := mt (nI_eq (a := asK oa ob k t) (b := asK oa ob k (oa k)) (by omega) (by omega)).mpr c_28; omega
                      refine lv_aload_n hx hb dX10_counts_76 rfl (lv_at hl 0 rfl) ?_
                      refine h_get (C := RX10) (T := TX10) (N := 38) hx hb hts i_RX10 hown hI hm_24 rfl 12 (by decide) f_45 rfl rfl dX10_counts_77 ?_
                      refine lv_iload hx hb dX10_counts_80 (lv_at hl 4 rfl) ?_
                      refine h_iald (i := t) hx hb hI hm_20 (by omega) (by decide) dX10_counts_82 ?_
                      refine n_eq (show _ = nI (asK oa ob k t) from congrArg nI (asG_at hg3 (by omega))) ?_
                      refine lv_iload_n hx hb dX10_counts_83 rfl (lv_at hl 3 rfl) ?_
                      refine lv_icmp_ne (tgt := 99) hx hb dX10_counts_84 (by decide) (fun c_38 => ?_) (fun c_38 => ?_)
                      · -- 84: nI (asK oa ob k t) ne
                        have c_38 : asK oa ob k t ≠ asK oa ob k (ob k) := by have h := mt (nI_eq (a := asK oa ob k t) (b := asK oa ob k (ob k)) (by omega) (by omega)).mpr c_38; omega
                        refine lv_iinc (v := nI (t + 1)) (lv' := [(4, .int (nI (t + 1))), (0, .ref (ad 60)), (1, .int (nI k)), (2, .int (nI (asK oa ob k (oa k)))), (3, .int (nI (asK oa ob k (ob k))))]) hx hb dX10_counts_99 hl (k := 4) rfl (nI_add t 1) (by decide) rfl (fun ls hl => ?_)
                        refine lv_goto (tgt := 58) hx hb dX10_counts_102 (by decide) ?_
                        exact ih_23 (t + 1) g3 Mx Hx locsx ls (by omega) (by omega) (asG_no hg3 (asK_n (by assumption) (by assumption))) hI hm_20 (fun j q0 => hF_22 j q0) (lv_sub hl [1, 2, 3, 4, 0] rfl)
                      · -- 84: nI (asK oa ob k t) eq
                        have c_38 : asK oa ob k t = asK oa ob k (ob k) := (nI_eq (a := asK oa ob k t) (b := asK oa ob k (ob k)) (by omega) (by omega)).mp (c_38)
                        refine lv_aload_n hx hb dX10_counts_87 rfl (lv_at hl 0 rfl) ?_
                        refine h_get (C := RX10) (T := TX10) (N := 38) hx hb hts i_RX10 hown hI hm_24 rfl 12 (by decide) f_45 rfl rfl dX10_counts_88 ?_
                        refine lv_iload hx hb dX10_counts_91 (lv_at hl 4 rfl) ?_
                        refine lv_iload_n hx hb dX10_counts_93 rfl (lv_at hl 2 rfl) ?_
                        refine lv_iload_n hx hb dX10_counts_94 rfl (lv_at hl 3 rfl) ?_
                        refine va_mmin hx hb (by rw [hml]; exact hl.1.symm) hown m_155 s_mmin s_mi s_mcmin (Nat.le_of_ble_eq_true rfl) (Nat.le_of_ble_eq_true rfl) (Nat.le_of_ble_eq_true rfl) (Nat.le_of_ble_eq_true rfl) dX10_counts_95 ?_
                        refine n_eq (show _ = nI (min (asK oa ob k (oa k)) (asK oa ob k (ob k))) from mmin_n (by omega) (by omega)) ?_
                        refine h_iast (i := t) (x := nI (min (asK oa ob k (oa k)) (asK oa ob k (ob k)))) hx hb hI hm_20 (by omega) (by decide) dX10_counts_98 (fun M_39 H_40 locs_41 eM_42 hI => ?_)
                        rw [upd_nF] at eM_42
                        have hm_43 : M_39 60 = some (cModel ad th ln on ao vr sn tp pt zs bg fa) := by rw [eM_42, va_up_ne _ _ (by decide)]; exact hm_24
                        have hm_44 : M_39 72 = some (aI G 40 (nF oa)) := by rw [eM_42, va_up_ne _ _ (by decide)]; exact hm_25
                        have hm_45 : M_39 73 = some (aI G 40 (nF ob)) := by rw [eM_42, va_up_ne _ _ (by decide)]; exact hm_26
                        have hm_46 : M_39 71 = some (aI G 40 (nF (va_up g3 t (min (asK oa ob k (oa k)) (asK oa ob k (ob k)))))) := by rw [eM_42]; exact va_up_self _ _ _
                        have hF_47 : ∀ j : Nat, j ≠ 71 → M_39 j = M j := fun j q0 => by rw [eM_42, va_up_ne _ _ q0]; exact hF_22 j q0
                        refine lv_iinc (v := nI (t + 1)) (lv' := [(4, .int (nI (t + 1))), (0, .ref (ad 60)), (1, .int (nI k)), (2, .int (nI (asK oa ob k (oa k)))), (3, .int (nI (asK oa ob k (ob k))))]) hx hb dX10_counts_99 hl (k := 4) rfl (nI_add t 1) (by decide) rfl (fun ls hl => ?_)
                        refine lv_goto (tgt := 58) hx hb dX10_counts_102 (by decide) ?_
                        exact ih_23 (t + 1) (va_up g3 t (min (asK oa ob k (oa k)) (asK oa ob k (ob k)))) M_39 H_40 locs_41 ls (by omega) (by omega) (asG_up hg3 (asK_y (Or.inr (by assumption)))) hI hm_46 (fun j q0 => hF_47 j q0) (lv_sub hl [1, 2, 3, 4, 0] rfl)
              exact lp58_19 ((40 - 0) + 1) 0 g2 Mx Hx locsx ls (Nat.lt_succ_self _) (by omega) (fun u hu => by rw [if_neg (Nat.not_lt_zero u)]; exact hg2 u hu) hI hm_11 (fun j q0 => hF_13 j q0) (lv_sub hl [3, 4, 2, 1, 0] rfl)
        exact lp23_10 ((on - 0) + 1) 0 g Mx Hx locsx ls (Nat.lt_succ_self _) (by omega) (fun t ht => hg t (by omega)) hI hm_2 (fun j q0 => hF_4 j q0) (lv_sub hl [1, 0] rfl)
      · -- 5: nI i lt
        have c_9 : i < 40 := by have h := mt (nI_leI (a := 40) (b := i) (by omega) (by omega)).mpr c_9; omega
        refine lv_aload_n hx hb dX10_counts_8 rfl (lv_at hl 0 rfl) ?_
        refine h_get (C := RX10) (T := TX10) (N := 38) hx hb hts i_RX10 hown hI hm_6 rfl 12 (by decide) f_45 rfl rfl dX10_counts_9 ?_
        refine lv_iload_n hx hb dX10_counts_12 rfl (lv_at hl 1 rfl) ?_
        refine lv_iload_n hx hb dX10_counts_13 rfl (lv_at hl 1 rfl) ?_
        refine h_iast (i := i) (x := nI i) hx hb hI hm_2 (by omega) (by decide) dX10_counts_14 (fun M_48 H_49 locs_50 eM_51 hI => ?_)
        rw [upd_nF] at eM_51
        have hm_52 : M_48 60 = some (cModel ad th ln on ao vr sn tp pt zs bg fa) := by rw [eM_51, va_up_ne _ _ (by decide)]; exact hm_6
        have hm_53 : M_48 72 = some (aI G 40 (nF oa)) := by rw [eM_51, va_up_ne _ _ (by decide)]; exact hm_7
        have hm_54 : M_48 73 = some (aI G 40 (nF ob)) := by rw [eM_51, va_up_ne _ _ (by decide)]; exact hm_8
        have hm_55 : M_48 71 = some (aI G 40 (nF (va_up g i i))) := by rw [eM_51]; exact va_up_self _ _ _
        have hF_56 : ∀ j : Nat, j ≠ 71 → M_48 j = M j := fun j q0 => by rw [eM_51, va_up_ne _ _ q0]; exact hF_4 j q0
        refine lv_iinc (v := nI (i + 1)) (lv' := [(1, .int (nI (i + 1))), (0, .ref (ad 60))]) hx hb dX10_counts_15 hl (k := 1) rfl (nI_add i 1) (by decide) rfl (fun ls hl => ?_)
        refine lv_goto (tgt := 2) hx hb dX10_counts_18 (by decide) ?_
        exact ih_5 (i + 1) (va_up g i i) M_48 H_49 locs_50 ls (by omega) (by omega) (lt_s2 (fun j hj => (va_up_ne _ _ (by omega)).trans (hg j hj)) (va_up_self _ _ _)) hI hm_55 (fun j q0 => hF_56 j q0) (lv_sub hl [1, 0] rfl)
  exact lp2_1 ((40 - 0) + 1) 0 lst M s.heap [] ls (Nat.lt_succ_self _) (by omega) (fun j hj => absurd hj (Nat.not_lt_zero j)) hI h71 (fun j _ => rfl) (lv_sub hl [1, 0] rfl)

/-- X10_one -/
abbrev rm_c_X10_one_same : Room := { frames := 2, cells := 0, slots := 0, locals := 42 }
set_option maxHeartbeats 4000000 in
set_option maxRecDepth 100000 in
theorem c_X10_one_same (l : Launch) (G : GG) (z : Nat) (ad : Nat → Nat) (M : Mem) {th : Nat} {ln : Nat} {on : Nat} {ao : Nat} {vr : Nat} {sn : Nat} {tp : Nat} {pt : Nat} {zs : Nat} {bg : Nat} {fa : Int32} {lst : Nat → Nat} {a : Nat} {b : Nat} (h60 : M 60 = some (cModel ad th ln on ao vr sn tp pt zs bg fa)) (h71 : M 71 = some (aI G 40 (nF lst))) (ha : a < 40) (hb4 : b < 40) (hlst : ∀ t, t < 40 → lst t < 40) (hne : lst a = lst b) : Met l yX10_one wsX10_one rm_c_X10_one_same (Pr G z ad M [.ref (ad 60), .int (nI a), .int (nI b)]) (Ni G z ad (fun (r : Int32) (M' : Mem) => r = nI 0 ∧ M' 60 = some (cModel ad 0 ln on ao vr sn tp pt zs bg fa) ∧ (∀ j : Nat, j ≠ 60 → M' j = M j))) 0 0 (fr z) := by
  refine Met.ofW (cc := cX10_one) (maxL := 3) (ret := (some .boolean)) (by decide) rfl ?_
  intro p e s m args below meth c s₁ B hml hv
  obtain ⟨rfl, hv⟩ := hv
  have hI := Iv.entry hv
  have hx := B.exec
  have hb := B.bytes
  have hr := B.returns
  have hts := atoms_spec (ws := wsX10_one) B.pre
  have hown : s.vm.findClass RX10 = some m.cls := findClass_of_methodNamed B.named
  have hlocks := B.notSynchronized
  have f_3 := hts _ (List.mem_cons_of_mem _ (lwg_of t_1013 rfl))
  have i_RX10 : ∀ w ∈ u_ws RX10 TX10 38, w ∈ wsX10_one := fun w h => List.mem_cons_of_mem _ (iu_X10 w h)
  have f_45 := hts _ (List.mem_cons_of_mem _ (lwg_of t_1025 rfl))
  have hl := lv_entry ([.ref (ad 60), .int (nI a), .int (nI b)]) (n := 3) (Nat.le_of_ble_eq_true rfl)
  rw [lg_entry_eq]
  generalize (lg_sl ([.ref (ad 60), .int (nI a), .int (nI b)]) ++ List.replicate (3 - (lg_sl ([.ref (ad 60), .int (nI a), .int (nI b)])).length) Slot.unset).toArray = ls at hl ⊢
  have hl : lv_has ls 3 [(0, .ref (ad 60)), (1, .int (nI a)), (2, .int (nI b))] := hl
  have hla := hlst a ha
  have hlb := hlst b hb4
  refine lv_aload_n hx hb dX10_one_0 rfl (lv_at hl 0 rfl) ?_
  refine lv_iconst (v := nI 0) hx hb dX10_one_1 (by decide) ?_
  refine h_put (C := RX10) (T := TX10) (N := 38) hx hb hts i_RX10 tyX10 tyX10_ok nmX10 hown hI h60 rfl 0 (by decide) f_3 rfl rfl rfl rfl (Nat.le_of_ble_eq_true rfl) dX10_one_2 (fun M_1 H_2 locs_3 eM_4 hI => ?_)
  have hm_5 : M_1 60 = some (cModel ad 0 ln on ao vr sn tp pt zs bg fa) := by rw [eM_4]; exact va_up_self _ _ _
  have hm_6 : M_1 71 = some (aI G 40 (nF lst)) := by rw [eM_4, va_up_ne _ _ (by decide)]; exact h71
  have hF_7 : ∀ j : Nat, j ≠ 60 → M_1 j = M j := fun j q0 => by rw [eM_4, va_up_ne _ _ q0]
  refine lv_aload_n hx hb dX10_one_5 rfl (lv_at hl 0 rfl) ?_
  refine lv_iload_n hx hb dX10_one_6 rfl (lv_at hl 1 rfl) ?_
  refine k_Ri (va_runS (As := [.int (nI a)]) (rest := [.ref (ad 60)]) ⟨hx, hb, hml, hown, hts⟩ (c_X10_noThing_0 l G z ad M_1 (t := a) (by omega)) (va_cwS 1 hts (gS (lwg_of t_1161 rfl) (lwg_of t_1162 rfl) (lwg_of t_13 rfl) (lwg_of t_1163 rfl)) rfl rfl rfl (by decide +kernel) ⟨Nat.le_of_ble_eq_true rfl, Nat.le_of_ble_eq_true rfl⟩) hI.preS rfl rfl hl.1 rfl (lv_room (Nat.le_of_ble_eq_true rfl)) dX10_one_7 ⟨Nat.le_of_ble_eq_true rfl, Nat.le_of_ble_eq_true rfl⟩) (fun _ h => h) (fun r_8 hp_9 => ?_)
  rw [hp_9]
  refine lv_if_ne (tgt := 20) hx hb dX10_one_10 (by decide) (fun c_10 => ?_) (fun c_10 => ?_)
  · -- 10: nI 0 ne
    exact absurd (by decide) c_10
  · -- 10: nI 0 eq
    refine lv_iload_n hx hb dX10_one_13 rfl (lv_at hl 2 rfl) ?_
    refine k_Ri (va_runS (As := [.int (nI b)]) (rest := [.ref (ad 60)]) ⟨hx, hb, hml, hown, hts⟩ (c_X10_noThing_0 l G z ad M_1 (t := b) (by omega)) (va_cwS 1 hts (gS (lwg_of t_1161 rfl) (lwg_of t_1162 rfl) (lwg_of t_13 rfl) (lwg_of t_1163 rfl)) rfl rfl rfl (by decide +kernel) ⟨Nat.le_of_ble_eq_true rfl, Nat.le_of_ble_eq_true rfl⟩) hI.preS rfl rfl hl.1 rfl (lv_room (Nat.le_of_ble_eq_true rfl)) dX10_one_14 ⟨Nat.le_of_ble_eq_true rfl, Nat.le_of_ble_eq_true rfl⟩) (fun _ h => h) (fun r_11 hp_12 => ?_)
    rw [hp_12]
    refine lv_if_eq (tgt := 24) hx hb dX10_one_17 (by decide) (fun c_13 => ?_) (fun c_13 => ?_)
    · -- 17: nI 0 eq
      refine lv_iconst (v := nI 0) hx hb dX10_one_24 (by decide) ?_
      refine lv_iconst (v := nI 1) hx hb dX10_one_25 (by decide) ?_
      refine k_Ri (va_runV (As := [.int (nI 0), .int (nI 1)]) (rest := []) ⟨hx, hb, hml, hown, hts⟩ (c_X10_throwsIf_0 l G z ad M_1 (th := 0) (ln := ln) (on := on) (ao := ao) (vr := vr) (sn := sn) (tp := tp) (pt := pt) (zs := zs) (bg := bg) (fa := fa) (c0 := 1) hm_5) (cwV 2 hts (gV (lwg_of t_1141 rfl) (lwg_of t_1143 rfl) (lwg_of ts_23 rfl) (lwg_of t_13 rfl) (lwg_of t_1144 rfl)) rfl rfl rfl (by decide +kernel) ⟨Nat.le_of_ble_eq_true rfl, Nat.le_of_ble_eq_true rfl⟩) (hI.preV hm_5 rfl) rfl rfl hl.1 rfl (lv_room (Nat.le_of_ble_eq_true rfl)) dX10_one_26 ⟨Nat.le_of_ble_eq_true rfl, Nat.le_of_ble_eq_true rfl⟩) (fun _ h => h) (fun r_14 hp_15 => ?_)
      rw [hp_15]
      refine lv_if_ne (tgt := 47) hx hb dX10_one_29 (by decide) (fun c_16 => ?_) (fun c_16 => ?_)
      · -- 29: nI 0 ne
        exact absurd (by decide) c_16
      · -- 29: nI 0 eq
        refine lv_aload_n hx hb dX10_one_32 rfl (lv_at hl 0 rfl) ?_
        refine h_get (C := RX10) (T := TX10) (N := 38) hx hb hts i_RX10 hown hI hm_5 rfl 12 (by decide) f_45 rfl rfl dX10_one_33 ?_
        refine lv_iload_n hx hb dX10_one_36 rfl (lv_at hl 1 rfl) ?_
        refine h_iald (i := a) hx hb hI hm_6 (by omega) (by decide) dX10_one_37 ?_
        refine lv_aload_n hx hb dX10_one_38 rfl (lv_at hl 0 rfl) ?_
        refine h_get (C := RX10) (T := TX10) (N := 38) hx hb hts i_RX10 hown hI hm_5 rfl 12 (by decide) f_45 rfl rfl dX10_one_39 ?_
        refine lv_iload_n hx hb dX10_one_42 rfl (lv_at hl 2 rfl) ?_
        refine h_iald (i := b) hx hb hI hm_6 (by omega) (by decide) dX10_one_43 ?_
        refine lv_icmp_ne (tgt := 49) hx hb dX10_one_44 (by decide) (fun c_17 => ?_) (fun c_17 => ?_)
        · -- 44: nI (lst a) ne
          have c_17 : lst a ≠ lst b := by have h := mt (nI_eq (a := lst a) (b := lst b) (by omega) (by omega)).mpr c_17; omega
          omega
        · -- 44: nI (lst a) eq
          have c_17 : lst a = lst b := (nI_eq (a := lst a) (b := lst b) (by omega) (by omega)).mp (c_17)
          refine lv_iconst (v := nI 0) hx hb dX10_one_47 (by decide) ?_
          exact e_Ni hx hb hr rfl hlocks hI ⟨rfl, hm_5, (fun j q0 => hF_7 j q0)⟩ dX10_one_48
    · -- 17: nI 0 ne
      exact absurd (by decide) c_13

/-- X10_one -/
abbrev rm_c_X10_one : Room := { frames := 2, cells := 0, slots := 0, locals := 54 }
set_option maxHeartbeats 4000000 in
set_option maxRecDepth 100000 in
theorem c_X10_one (l : Launch) (G : GG) (z : Nat) (ad : Nat → Nat) (M : Mem) {th : Nat} {ln : Nat} {on : Nat} {ao : Nat} {vr : Nat} {sn : Nat} {tp : Nat} {pt : Nat} {zs : Nat} {bg : Nat} {fa : Int32} {lst : Nat → Nat} {oa : Nat → Nat} {ob : Nat → Nat} {a : Nat} {b : Nat} (h60 : M 60 = some (cModel ad th ln on ao vr sn tp pt zs bg fa)) (h71 : M 71 = some (aI G 40 (nF lst))) (h72 : M 72 = some (aI G 40 (nF oa))) (h73 : M 73 = some (aI G 40 (nF ob))) (ha : a < 40) (hb4 : b < 40) (hlst : ∀ t, t < 40 → lst t < 40) (hne : lst a ≠ lst b) (hon : on < 40) (hab : ∀ i, i < on → oa i < 40 ∧ ob i < 40) : Met l yX10_one wsX10_one rm_c_X10_one (Pr G z ad M [.ref (ad 60), .int (nI a), .int (nI b)]) (Ni G z ad (fun (r : Int32) (M' : Mem) => ∃ l2 : Nat → Nat, r = nI 1 ∧ M' 60 = some (cModel ad 0 ln (on + 1) ao vr sn tp pt zs bg fa) ∧ M' 71 = some (aI G 40 (nF l2)) ∧ M' 72 = some (aI G 40 (nF (va_up oa on a))) ∧ M' 73 = some (aI G 40 (nF (va_up ob on b))) ∧ (∀ j : Nat, j ≠ 60 → j ≠ 71 → j ≠ 72 → j ≠ 73 → M' j = M j) ∧ (∀ t, t < 40 → l2 t = asK (va_up oa on a) (va_up ob on b) (on + 1) t))) 0 0 (fr z) := by
  refine Met.ofW (cc := cX10_one) (maxL := 3) (ret := (some .boolean)) (by decide) rfl ?_
  intro p e s m args below meth c s₁ B hml hv
  obtain ⟨rfl, hv⟩ := hv
  have hI := Iv.entry hv
  have hx := B.exec
  have hb := B.bytes
  have hr := B.returns
  have hts := atoms_spec (ws := wsX10_one) B.pre
  have hown : s.vm.findClass RX10 = some m.cls := findClass_of_methodNamed B.named
  have hlocks := B.notSynchronized
  have f_3 := hts _ (List.mem_cons_of_mem _ (lwg_of t_1013 rfl))
  have i_RX10 : ∀ w ∈ u_ws RX10 TX10 38, w ∈ wsX10_one := fun w h => List.mem_cons_of_mem _ (iu_X10 w h)
  have f_45 := hts _ (List.mem_cons_of_mem _ (lwg_of t_1025 rfl))
  have f_48 := hts _ (List.mem_cons_of_mem _ (lwg_of t_1026 rfl))
  have f_152 := hts _ (List.mem_cons_of_mem _ (lwg_of t_1028 rfl))
  have f_51 := hts _ (List.mem_cons_of_mem _ (lwg_of t_1027 rfl))
  have hl := lv_entry ([.ref (ad 60), .int (nI a), .int (nI b)]) (n := 3) (Nat.le_of_ble_eq_true rfl)
  rw [lg_entry_eq]
  generalize (lg_sl ([.ref (ad 60), .int (nI a), .int (nI b)]) ++ List.replicate (3 - (lg_sl ([.ref (ad 60), .int (nI a), .int (nI b)])).length) Slot.unset).toArray = ls at hl ⊢
  have hl : lv_has ls 3 [(0, .ref (ad 60)), (1, .int (nI a)), (2, .int (nI b))] := hl
  have hla := hlst a ha
  have hlb := hlst b hb4
  refine lv_aload_n hx hb dX10_one_0 rfl (lv_at hl 0 rfl) ?_
  refine lv_iconst (v := nI 0) hx hb dX10_one_1 (by decide) ?_
  refine h_put (C := RX10) (T := TX10) (N := 38) hx hb hts i_RX10 tyX10 tyX10_ok nmX10 hown hI h60 rfl 0 (by decide) f_3 rfl rfl rfl rfl (Nat.le_of_ble_eq_true rfl) dX10_one_2 (fun M_1 H_2 locs_3 eM_4 hI => ?_)
  have hm_5 : M_1 60 = some (cModel ad 0 ln on ao vr sn tp pt zs bg fa) := by rw [eM_4]; exact va_up_self _ _ _
  have hm_6 : M_1 71 = some (aI G 40 (nF lst)) := by rw [eM_4, va_up_ne _ _ (by decide)]; exact h71
  have hm_7 : M_1 72 = some (aI G 40 (nF oa)) := by rw [eM_4, va_up_ne _ _ (by decide)]; exact h72
  have hm_8 : M_1 73 = some (aI G 40 (nF ob)) := by rw [eM_4, va_up_ne _ _ (by decide)]; exact h73
  have hF_9 : ∀ j : Nat, j ≠ 60 → M_1 j = M j := fun j q0 => by rw [eM_4, va_up_ne _ _ q0]
  refine lv_aload_n hx hb dX10_one_5 rfl (lv_at hl 0 rfl) ?_
  refine lv_iload_n hx hb dX10_one_6 rfl (lv_at hl 1 rfl) ?_
  refine k_Ri (va_runS (As := [.int (nI a)]) (rest := [.ref (ad 60)]) ⟨hx, hb, hml, hown, hts⟩ (c_X10_noThing_0 l G z ad M_1 (t := a) (by omega)) (va_cwS 1 hts (gS (lwg_of t_1161 rfl) (lwg_of t_1162 rfl) (lwg_of t_13 rfl) (lwg_of t_1163 rfl)) rfl rfl rfl (by decide +kernel) ⟨Nat.le_of_ble_eq_true rfl, Nat.le_of_ble_eq_true rfl⟩) hI.preS rfl rfl hl.1 rfl (lv_room (Nat.le_of_ble_eq_true rfl)) dX10_one_7 ⟨Nat.le_of_ble_eq_true rfl, Nat.le_of_ble_eq_true rfl⟩) (fun _ h => h) (fun r_10 hp_11 => ?_)
  rw [hp_11]
  refine lv_if_ne (tgt := 20) hx hb dX10_one_10 (by decide) (fun c_12 => ?_) (fun c_12 => ?_)
  · -- 10: nI 0 ne
    exact absurd (by decide) c_12
  · -- 10: nI 0 eq
    refine lv_iload_n hx hb dX10_one_13 rfl (lv_at hl 2 rfl) ?_
    refine k_Ri (va_runS (As := [.int (nI b)]) (rest := [.ref (ad 60)]) ⟨hx, hb, hml, hown, hts⟩ (c_X10_noThing_0 l G z ad M_1 (t := b) (by omega)) (va_cwS 1 hts (gS (lwg_of t_1161 rfl) (lwg_of t_1162 rfl) (lwg_of t_13 rfl) (lwg_of t_1163 rfl)) rfl rfl rfl (by decide +kernel) ⟨Nat.le_of_ble_eq_true rfl, Nat.le_of_ble_eq_true rfl⟩) hI.preS rfl rfl hl.1 rfl (lv_room (Nat.le_of_ble_eq_true rfl)) dX10_one_14 ⟨Nat.le_of_ble_eq_true rfl, Nat.le_of_ble_eq_true rfl⟩) (fun _ h => h) (fun r_13 hp_14 => ?_)
    rw [hp_14]
    refine lv_if_eq (tgt := 24) hx hb dX10_one_17 (by decide) (fun c_15 => ?_) (fun c_15 => ?_)
    · -- 17: nI 0 eq
      refine lv_iconst (v := nI 0) hx hb dX10_one_24 (by decide) ?_
      refine lv_iconst (v := nI 1) hx hb dX10_one_25 (by decide) ?_
      refine k_Ri (va_runV (As := [.int (nI 0), .int (nI 1)]) (rest := []) ⟨hx, hb, hml, hown, hts⟩ (c_X10_throwsIf_0 l G z ad M_1 (th := 0) (ln := ln) (on := on) (ao := ao) (vr := vr) (sn := sn) (tp := tp) (pt := pt) (zs := zs) (bg := bg) (fa := fa) (c0 := 1) hm_5) (cwV 2 hts (gV (lwg_of t_1141 rfl) (lwg_of t_1143 rfl) (lwg_of ts_23 rfl) (lwg_of t_13 rfl) (lwg_of t_1144 rfl)) rfl rfl rfl (by decide +kernel) ⟨Nat.le_of_ble_eq_true rfl, Nat.le_of_ble_eq_true rfl⟩) (hI.preV hm_5 rfl) rfl rfl hl.1 rfl (lv_room (Nat.le_of_ble_eq_true rfl)) dX10_one_26 ⟨Nat.le_of_ble_eq_true rfl, Nat.le_of_ble_eq_true rfl⟩) (fun _ h => h) (fun r_16 hp_17 => ?_)
      rw [hp_17]
      refine lv_if_ne (tgt := 47) hx hb dX10_one_29 (by decide) (fun c_18 => ?_) (fun c_18 => ?_)
      · -- 29: nI 0 ne
        exact absurd (by decide) c_18
      · -- 29: nI 0 eq
        refine lv_aload_n hx hb dX10_one_32 rfl (lv_at hl 0 rfl) ?_
        refine h_get (C := RX10) (T := TX10) (N := 38) hx hb hts i_RX10 hown hI hm_5 rfl 12 (by decide) f_45 rfl rfl dX10_one_33 ?_
        refine lv_iload_n hx hb dX10_one_36 rfl (lv_at hl 1 rfl) ?_
        refine h_iald (i := a) hx hb hI hm_6 (by omega) (by decide) dX10_one_37 ?_
        refine lv_aload_n hx hb dX10_one_38 rfl (lv_at hl 0 rfl) ?_
        refine h_get (C := RX10) (T := TX10) (N := 38) hx hb hts i_RX10 hown hI hm_5 rfl 12 (by decide) f_45 rfl rfl dX10_one_39 ?_
        refine lv_iload_n hx hb dX10_one_42 rfl (lv_at hl 2 rfl) ?_
        refine h_iald (i := b) hx hb hI hm_6 (by omega) (by decide) dX10_one_43 ?_
        refine lv_icmp_ne (tgt := 49) hx hb dX10_one_44 (by decide) (fun c_19 => ?_) (fun c_19 => ?_)
        · -- 44: nI (lst a) ne
          have c_19 : lst a ≠ lst b := by have h := mt (nI_eq (a := lst a) (b := lst b) (by omega) (by omega)).mpr c_19; omega
          refine lv_aload_n hx hb dX10_one_49 rfl (lv_at hl 0 rfl) ?_
          refine h_get (C := RX10) (T := TX10) (N := 38) hx hb hts i_RX10 hown hI hm_5 rfl 13 (by decide) f_48 rfl rfl dX10_one_50 ?_
          refine lv_aload_n hx hb dX10_one_53 rfl (lv_at hl 0 rfl) ?_
          refine h_get (C := RX10) (T := TX10) (N := 38) hx hb hts i_RX10 hown hI hm_5 rfl 15 (by decide) f_152 rfl rfl dX10_one_54 ?_
          refine lv_iload_n hx hb dX10_one_57 rfl (lv_at hl 1 rfl) ?_
          refine h_iast (i := on) (x := nI a) hx hb hI hm_7 (by omega) (by decide) dX10_one_58 (fun M_20 H_21 locs_22 eM_23 hI => ?_)
          rw [upd_nF] at eM_23
          have hm_24 : M_20 60 = some (cModel ad 0 ln on ao vr sn tp pt zs bg fa) := by rw [eM_23, va_up_ne _ _ (by decide)]; exact hm_5
          have hm_25 : M_20 71 = some (aI G 40 (nF lst)) := by rw [eM_23, va_up_ne _ _ (by decide)]; exact hm_6
          have hm_26 : M_20 72 = some (aI G 40 (nF (va_up oa on a))) := by rw [eM_23]; exact va_up_self _ _ _
          have hm_27 : M_20 73 = some (aI G 40 (nF ob)) := by rw [eM_23, va_up_ne _ _ (by decide)]; exact hm_8
          have hF_28 : ∀ j : Nat, j ≠ 60 → j ≠ 72 → M_20 j = M j := fun j q0 q1 => by rw [eM_23, va_up_ne _ _ q1]; exact hF_9 j q0
          refine lv_aload_n hx hb dX10_one_59 rfl (lv_at hl 0 rfl) ?_
          refine h_get (C := RX10) (T := TX10) (N := 38) hx hb hts i_RX10 hown hI hm_24 rfl 14 (by decide) f_51 rfl rfl dX10_one_60 ?_
          refine lv_aload_n hx hb dX10_one_63 rfl (lv_at hl 0 rfl) ?_
          refine h_get (C := RX10) (T := TX10) (N := 38) hx hb hts i_RX10 hown hI hm_24 rfl 15 (by decide) f_152 rfl rfl dX10_one_64 ?_
          refine lv_iload_n hx hb dX10_one_67 rfl (lv_at hl 2 rfl) ?_
          refine h_iast (i := on) (x := nI b) hx hb hI hm_27 (by omega) (by decide) dX10_one_68 (fun M_29 H_30 locs_31 eM_32 hI => ?_)
          rw [upd_nF] at eM_32
          have hm_33 : M_29 60 = some (cModel ad 0 ln on ao vr sn tp pt zs bg fa) := by rw [eM_32, va_up_ne _ _ (by decide)]; exact hm_24
          have hm_34 : M_29 71 = some (aI G 40 (nF lst)) := by rw [eM_32, va_up_ne _ _ (by decide)]; exact hm_25
          have hm_35 : M_29 72 = some (aI G 40 (nF (va_up oa on a))) := by rw [eM_32, va_up_ne _ _ (by decide)]; exact hm_26
          have hm_36 : M_29 73 = some (aI G 40 (nF (va_up ob on b))) := by rw [eM_32]; exact va_up_self _ _ _
          have hF_37 : ∀ j : Nat, j ≠ 60 → j ≠ 72 → j ≠ 73 → M_29 j = M j := fun j q0 q1 q2 => by rw [eM_32, va_up_ne _ _ q2]; exact hF_28 j q0 q1
          refine lv_aload_n hx hb dX10_one_69 rfl (lv_at hl 0 rfl) ?_
          refine lv_dup hx hb dX10_one_70 rfl ?_
          refine h_get (C := RX10) (T := TX10) (N := 38) hx hb hts i_RX10 hown hI hm_33 rfl 15 (by decide) f_152 rfl rfl dX10_one_71 ?_
          refine lv_iconst (v := nI 1) hx hb dX10_one_74 (by decide) ?_
          refine lv_iadd hx hb dX10_one_75 ?_
          refine n_eq (nI_add on 1) ?_
          refine h_put (C := RX10) (T := TX10) (N := 38) hx hb hts i_RX10 tyX10 tyX10_ok nmX10 hown hI hm_33 rfl 15 (by decide) f_152 rfl rfl rfl rfl (Nat.le_of_ble_eq_true rfl) dX10_one_76 (fun M_38 H_39 locs_40 eM_41 hI => ?_)
          have hm_42 : M_38 60 = some (cModel ad 0 ln (on + 1) ao vr sn tp pt zs bg fa) := by rw [eM_41]; exact va_up_self _ _ _
          have hm_43 : M_38 71 = some (aI G 40 (nF lst)) := by rw [eM_41, va_up_ne _ _ (by decide)]; exact hm_34
          have hm_44 : M_38 72 = some (aI G 40 (nF (va_up oa on a))) := by rw [eM_41, va_up_ne _ _ (by decide)]; exact hm_35
          have hm_45 : M_38 73 = some (aI G 40 (nF (va_up ob on b))) := by rw [eM_41, va_up_ne _ _ (by decide)]; exact hm_36
          have hF_46 : ∀ j : Nat, j ≠ 60 → j ≠ 72 → j ≠ 73 → M_38 j = M j := fun j q0 q1 q2 => by rw [eM_41, va_up_ne _ _ q0]; exact hF_37 j q0 q1 q2
          have hab2 : ∀ i, i < on + 1 → va_up oa on a i < 40 ∧ va_up ob on b i < 40 := lt_s2 (fun i hi => by rw [va_up_ne _ _ (by omega), va_up_ne _ _ (by omega)]; exact hab i hi) (by rw [va_up_self, va_up_self]; exact ⟨ha, hb4⟩)
          refine lv_aload_n hx hb dX10_one_79 rfl (lv_at hl 0 rfl) ?_
          refine k_Nv (va_runV (As := []) (rest := []) ⟨hx, hb, hml, hown, hts⟩ (c_X10_counts l G z ad M_38 (th := 0) (ln := ln) (on := on + 1) (ao := ao) (vr := vr) (sn := sn) (tp := tp) (pt := pt) (zs := zs) (bg := bg) (fa := fa) (lst := lst) (oa := (va_up oa on a)) (ob := (va_up ob on b)) hm_42 hm_43 hm_44 hm_45 (by omega) hab2) (cwV 0 hts (gV (lwg_of t_1008 rfl) (lwg_of t_1010 rfl) (lwg_of ts_22 rfl) (lwg_of t_13 rfl) (lwg_of t_1011 rfl)) rfl rfl rfl (by decide +kernel) ⟨Nat.le_of_ble_eq_true rfl, Nat.le_of_ble_eq_true rfl⟩) (hI.preV hm_42 rfl) rfl rfl hl.1 rfl (lv_room (Nat.le_of_ble_eq_true rfl)) dX10_one_80 ⟨Nat.le_of_ble_eq_true rfl, Nat.le_of_ble_eq_true rfl⟩) hI (fun M_49 H_50 locs_51 hp_48 hI => ?_)
          obtain ⟨l2_55, hm_52, hF_53, hP_54⟩ := hp_48
          have hm_56 : M_49 60 = some (cModel ad 0 ln (on + 1) ao vr sn tp pt zs bg fa) := by rw [hF_53 60 (by omega)]; exact hm_42
          have hm_57 : M_49 72 = some (aI G 40 (nF (va_up oa on a))) := by rw [hF_53 72 (by omega)]; exact hm_44
          have hm_58 : M_49 73 = some (aI G 40 (nF (va_up ob on b))) := by rw [hF_53 73 (by omega)]; exact hm_45
          have hF_59 : ∀ j : Nat, j ≠ 60 → j ≠ 72 → j ≠ 73 → j ≠ 71 → M_49 j = M j := fun j q0 q1 q2 q3 => (hF_53 j q3).trans (hF_46 j q0 q1 q2)
          refine lv_iconst (v := nI 1) hx hb dX10_one_83 (by decide) ?_
          exact e_Ni hx hb hr rfl hlocks hI ⟨l2_55, rfl, hm_56, hm_52, hm_57, hm_58, (fun j q0 q1 q2 q3 => hF_59 j q0 q2 q3 q1), hP_54⟩ dX10_one_84
        · -- 44: nI (lst a) eq
          have c_19 : lst a = lst b := (nI_eq (a := lst a) (b := lst b) (by omega) (by omega)).mp (c_19)
          omega
    · -- 17: nI 0 ne
      exact absurd (by decide) c_15

/-- X10_one -/
abbrev rm_c_X10_one_a : Room := { frames := 2, cells := 0, slots := 0, locals := 42 }
set_option maxHeartbeats 4000000 in
set_option maxRecDepth 100000 in
theorem c_X10_one_a (l : Launch) (G : GG) (z : Nat) (ad : Nat → Nat) (M : Mem) {th : Nat} {ln : Nat} {on : Nat} {ao : Nat} {vr : Nat} {sn : Nat} {tp : Nat} {pt : Nat} {zs : Nat} {bg : Nat} {fa : Int32} {x0 : Int32} {x1 : Int32} (h60 : M 60 = some (cModel ad th ln on ao vr sn tp pt zs bg fa)) (hbad : x0 < 0 ∨ ¬ x0 < nI 40) : Met l yX10_one wsX10_one rm_c_X10_one_a (Pr G z ad M [.ref (ad 60), .int x0, .int x1]) (Ni G z ad (fun (r : Int32) (M' : Mem) => r = nI 0 ∧ M' 60 = some (cModel ad 1 ln on ao vr sn tp pt zs bg fa) ∧ (∀ j : Nat, j ≠ 60 → M' j = M j))) 0 0 (fr z) := by
  refine Met.ofW (cc := cX10_one) (maxL := 3) (ret := (some .boolean)) (by decide) rfl ?_
  intro p e s m args below meth c s₁ B hml hv
  obtain ⟨rfl, hv⟩ := hv
  have hI := Iv.entry hv
  have hx := B.exec
  have hb := B.bytes
  have hr := B.returns
  have hts := atoms_spec (ws := wsX10_one) B.pre
  have hown : s.vm.findClass RX10 = some m.cls := findClass_of_methodNamed B.named
  have hlocks := B.notSynchronized
  have f_3 := hts _ (List.mem_cons_of_mem _ (lwg_of t_1013 rfl))
  have i_RX10 : ∀ w ∈ u_ws RX10 TX10 38, w ∈ wsX10_one := fun w h => List.mem_cons_of_mem _ (iu_X10 w h)
  have hl := lv_entry ([.ref (ad 60), .int x0, .int x1]) (n := 3) (Nat.le_of_ble_eq_true rfl)
  rw [lg_entry_eq]
  generalize (lg_sl ([.ref (ad 60), .int x0, .int x1]) ++ List.replicate (3 - (lg_sl ([.ref (ad 60), .int x0, .int x1])).length) Slot.unset).toArray = ls at hl ⊢
  have hl : lv_has ls 3 [(0, .ref (ad 60)), (1, .int x0), (2, .int x1)] := hl
  refine lv_aload_n hx hb dX10_one_0 rfl (lv_at hl 0 rfl) ?_
  refine lv_iconst (v := nI 0) hx hb dX10_one_1 (by decide) ?_
  refine h_put (C := RX10) (T := TX10) (N := 38) hx hb hts i_RX10 tyX10 tyX10_ok nmX10 hown hI h60 rfl 0 (by decide) f_3 rfl rfl rfl rfl (Nat.le_of_ble_eq_true rfl) dX10_one_2 (fun M_1 H_2 locs_3 eM_4 hI => ?_)
  have hm_5 : M_1 60 = some (cModel ad 0 ln on ao vr sn tp pt zs bg fa) := by rw [eM_4]; exact va_up_self _ _ _
  have hF_6 : ∀ j : Nat, j ≠ 60 → M_1 j = M j := fun j q0 => by rw [eM_4, va_up_ne _ _ q0]
  refine lv_aload_n hx hb dX10_one_5 rfl (lv_at hl 0 rfl) ?_
  refine lv_iload_n hx hb dX10_one_6 rfl (lv_at hl 1 rfl) ?_
  refine k_Ri (va_runS (As := [.int x0]) (rest := [.ref (ad 60)]) ⟨hx, hb, hml, hown, hts⟩ (c_X10_noThing_1 l G z ad M_1 (x := x0) hbad) (va_cwS 1 hts (gS (lwg_of t_1161 rfl) (lwg_of t_1162 rfl) (lwg_of t_13 rfl) (lwg_of t_1163 rfl)) rfl rfl rfl (by decide +kernel) ⟨Nat.le_of_ble_eq_true rfl, Nat.le_of_ble_eq_true rfl⟩) hI.preS rfl rfl hl.1 rfl (lv_room (Nat.le_of_ble_eq_true rfl)) dX10_one_7 ⟨Nat.le_of_ble_eq_true rfl, Nat.le_of_ble_eq_true rfl⟩) (fun _ h => h) (fun r_7 hp_8 => ?_)
  rw [hp_8]
  refine lv_if_ne (tgt := 20) hx hb dX10_one_10 (by decide) (fun c_9 => ?_) (fun c_9 => ?_)
  · -- 10: nI 1 ne
    refine lv_iconst (v := nI 1) hx hb dX10_one_20 (by decide) ?_
    refine lv_goto (tgt := 25) hx hb dX10_one_21 (by decide) ?_
    refine lv_iconst (v := nI 1) hx hb dX10_one_25 (by decide) ?_
    refine k_Ni (va_runV (As := [.int (nI 1), .int (nI 1)]) (rest := []) ⟨hx, hb, hml, hown, hts⟩ (c_X10_throwsIf_1 l G z ad M_1 (th := 0) (ln := ln) (on := on) (ao := ao) (vr := vr) (sn := sn) (tp := tp) (pt := pt) (zs := zs) (bg := bg) (fa := fa) (c0 := 1) hm_5) (cwV 2 hts (gV (lwg_of t_1141 rfl) (lwg_of t_1143 rfl) (lwg_of ts_23 rfl) (lwg_of t_13 rfl) (lwg_of t_1144 rfl)) rfl rfl rfl (by decide +kernel) ⟨Nat.le_of_ble_eq_true rfl, Nat.le_of_ble_eq_true rfl⟩) (hI.preV hm_5 rfl) rfl rfl hl.1 rfl (lv_room (Nat.le_of_ble_eq_true rfl)) dX10_one_26 ⟨Nat.le_of_ble_eq_true rfl, Nat.le_of_ble_eq_true rfl⟩) hI (fun r_10 M_12 H_13 locs_14 hp_11 hI => ?_)
    obtain ⟨hr_15, hm_16, hF_17⟩ := hp_11
    have hF_18 : ∀ j : Nat, j ≠ 60 → M_12 j = M j := fun j q0 => (hF_17 j q0).trans (hF_6 j q0)
    rw [hr_15]
    refine lv_if_ne (tgt := 47) hx hb dX10_one_29 (by decide) (fun c_19 => ?_) (fun c_19 => ?_)
    · -- 29: nI 1 ne
      refine lv_iconst (v := nI 0) hx hb dX10_one_47 (by decide) ?_
      exact e_Ni hx hb hr rfl hlocks hI ⟨rfl, hm_16, (fun j q0 => hF_18 j q0)⟩ dX10_one_48
    · -- 29: nI 1 eq
      exact absurd c_19 (by decide)
  · -- 10: nI 1 eq
    exact absurd c_9 (by decide)

/-- X10_one -/
abbrev rm_c_X10_one_b : Room := { frames := 2, cells := 0, slots := 0, locals := 42 }
set_option maxHeartbeats 4000000 in
set_option maxRecDepth 100000 in
theorem c_X10_one_b (l : Launch) (G : GG) (z : Nat) (ad : Nat → Nat) (M : Mem) {th : Nat} {ln : Nat} {on : Nat} {ao : Nat} {vr : Nat} {sn : Nat} {tp : Nat} {pt : Nat} {zs : Nat} {bg : Nat} {fa : Int32} {a : Nat} {x1 : Int32} (h60 : M 60 = some (cModel ad th ln on ao vr sn tp pt zs bg fa)) (ha : a < 40) (hbad : x1 < 0 ∨ ¬ x1 < nI 40) : Met l yX10_one wsX10_one rm_c_X10_one_b (Pr G z ad M [.ref (ad 60), .int (nI a), .int x1]) (Ni G z ad (fun (r : Int32) (M' : Mem) => r = nI 0 ∧ M' 60 = some (cModel ad 1 ln on ao vr sn tp pt zs bg fa) ∧ (∀ j : Nat, j ≠ 60 → M' j = M j))) 0 0 (fr z) := by
  refine Met.ofW (cc := cX10_one) (maxL := 3) (ret := (some .boolean)) (by decide) rfl ?_
  intro p e s m args below meth c s₁ B hml hv
  obtain ⟨rfl, hv⟩ := hv
  have hI := Iv.entry hv
  have hx := B.exec
  have hb := B.bytes
  have hr := B.returns
  have hts := atoms_spec (ws := wsX10_one) B.pre
  have hown : s.vm.findClass RX10 = some m.cls := findClass_of_methodNamed B.named
  have hlocks := B.notSynchronized
  have f_3 := hts _ (List.mem_cons_of_mem _ (lwg_of t_1013 rfl))
  have i_RX10 : ∀ w ∈ u_ws RX10 TX10 38, w ∈ wsX10_one := fun w h => List.mem_cons_of_mem _ (iu_X10 w h)
  have hl := lv_entry ([.ref (ad 60), .int (nI a), .int x1]) (n := 3) (Nat.le_of_ble_eq_true rfl)
  rw [lg_entry_eq]
  generalize (lg_sl ([.ref (ad 60), .int (nI a), .int x1]) ++ List.replicate (3 - (lg_sl ([.ref (ad 60), .int (nI a), .int x1])).length) Slot.unset).toArray = ls at hl ⊢
  have hl : lv_has ls 3 [(0, .ref (ad 60)), (1, .int (nI a)), (2, .int x1)] := hl
  refine lv_aload_n hx hb dX10_one_0 rfl (lv_at hl 0 rfl) ?_
  refine lv_iconst (v := nI 0) hx hb dX10_one_1 (by decide) ?_
  refine h_put (C := RX10) (T := TX10) (N := 38) hx hb hts i_RX10 tyX10 tyX10_ok nmX10 hown hI h60 rfl 0 (by decide) f_3 rfl rfl rfl rfl (Nat.le_of_ble_eq_true rfl) dX10_one_2 (fun M_1 H_2 locs_3 eM_4 hI => ?_)
  have hm_5 : M_1 60 = some (cModel ad 0 ln on ao vr sn tp pt zs bg fa) := by rw [eM_4]; exact va_up_self _ _ _
  have hF_6 : ∀ j : Nat, j ≠ 60 → M_1 j = M j := fun j q0 => by rw [eM_4, va_up_ne _ _ q0]
  refine lv_aload_n hx hb dX10_one_5 rfl (lv_at hl 0 rfl) ?_
  refine lv_iload_n hx hb dX10_one_6 rfl (lv_at hl 1 rfl) ?_
  refine k_Ri (va_runS (As := [.int (nI a)]) (rest := [.ref (ad 60)]) ⟨hx, hb, hml, hown, hts⟩ (c_X10_noThing_0 l G z ad M_1 (t := a) (by omega)) (va_cwS 1 hts (gS (lwg_of t_1161 rfl) (lwg_of t_1162 rfl) (lwg_of t_13 rfl) (lwg_of t_1163 rfl)) rfl rfl rfl (by decide +kernel) ⟨Nat.le_of_ble_eq_true rfl, Nat.le_of_ble_eq_true rfl⟩) hI.preS rfl rfl hl.1 rfl (lv_room (Nat.le_of_ble_eq_true rfl)) dX10_one_7 ⟨Nat.le_of_ble_eq_true rfl, Nat.le_of_ble_eq_true rfl⟩) (fun _ h => h) (fun r_7 hp_8 => ?_)
  rw [hp_8]
  refine lv_if_ne (tgt := 20) hx hb dX10_one_10 (by decide) (fun c_9 => ?_) (fun c_9 => ?_)
  · -- 10: nI 0 ne
    exact absurd (by decide) c_9
  · -- 10: nI 0 eq
    refine lv_iload_n hx hb dX10_one_13 rfl (lv_at hl 2 rfl) ?_
    refine k_Ri (va_runS (As := [.int x1]) (rest := [.ref (ad 60)]) ⟨hx, hb, hml, hown, hts⟩ (c_X10_noThing_1 l G z ad M_1 (x := x1) hbad) (va_cwS 1 hts (gS (lwg_of t_1161 rfl) (lwg_of t_1162 rfl) (lwg_of t_13 rfl) (lwg_of t_1163 rfl)) rfl rfl rfl (by decide +kernel) ⟨Nat.le_of_ble_eq_true rfl, Nat.le_of_ble_eq_true rfl⟩) hI.preS rfl rfl hl.1 rfl (lv_room (Nat.le_of_ble_eq_true rfl)) dX10_one_14 ⟨Nat.le_of_ble_eq_true rfl, Nat.le_of_ble_eq_true rfl⟩) (fun _ h => h) (fun r_10 hp_11 => ?_)
    rw [hp_11]
    refine lv_if_eq (tgt := 24) hx hb dX10_one_17 (by decide) (fun c_12 => ?_) (fun c_12 => ?_)
    · -- 17: nI 1 eq
      exact absurd c_12 (by decide)
    · -- 17: nI 1 ne
      refine lv_iconst (v := nI 1) hx hb dX10_one_20 (by decide) ?_
      refine lv_goto (tgt := 25) hx hb dX10_one_21 (by decide) ?_
      refine lv_iconst (v := nI 1) hx hb dX10_one_25 (by decide) ?_
      refine k_Ni (va_runV (As := [.int (nI 1), .int (nI 1)]) (rest := []) ⟨hx, hb, hml, hown, hts⟩ (c_X10_throwsIf_1 l G z ad M_1 (th := 0) (ln := ln) (on := on) (ao := ao) (vr := vr) (sn := sn) (tp := tp) (pt := pt) (zs := zs) (bg := bg) (fa := fa) (c0 := 1) hm_5) (cwV 2 hts (gV (lwg_of t_1141 rfl) (lwg_of t_1143 rfl) (lwg_of ts_23 rfl) (lwg_of t_13 rfl) (lwg_of t_1144 rfl)) rfl rfl rfl (by decide +kernel) ⟨Nat.le_of_ble_eq_true rfl, Nat.le_of_ble_eq_true rfl⟩) (hI.preV hm_5 rfl) rfl rfl hl.1 rfl (lv_room (Nat.le_of_ble_eq_true rfl)) dX10_one_26 ⟨Nat.le_of_ble_eq_true rfl, Nat.le_of_ble_eq_true rfl⟩) hI (fun r_13 M_15 H_16 locs_17 hp_14 hI => ?_)
      obtain ⟨hr_18, hm_19, hF_20⟩ := hp_14
      have hF_21 : ∀ j : Nat, j ≠ 60 → M_15 j = M j := fun j q0 => (hF_20 j q0).trans (hF_6 j q0)
      rw [hr_18]
      refine lv_if_ne (tgt := 47) hx hb dX10_one_29 (by decide) (fun c_22 => ?_) (fun c_22 => ?_)
      · -- 29: nI 1 ne
        refine lv_iconst (v := nI 0) hx hb dX10_one_47 (by decide) ?_
        exact e_Ni hx hb hr rfl hlocks hI ⟨rfl, hm_19, (fun j q0 => hF_21 j q0)⟩ dX10_one_48
      · -- 29: nI 1 eq
        exact absurd c_22 (by decide)

/-- X10_part -/
abbrev rm_c_X10_part_0 : Room := { frames := 0, cells := 0, slots := 0, locals := 0 }
set_option maxHeartbeats 4000000 in
set_option maxRecDepth 100000 in
theorem c_X10_part_0 (l : Launch) (G : GG) (z : Nat) (ad : Nat → Nat) (M : Mem) {th : Nat} {ln : Nat} {on : Nat} {ao : Nat} {vr : Nat} {sn : Nat} {tp : Nat} {pt : Nat} {zs : Nat} {bg : Nat} {fa : Int32} (h60 : M 60 = some (cModel ad th ln on ao vr sn tp pt zs bg fa)) (hon : on = 0) : Met l yX10_part wsX10_part rm_c_X10_part_0 (Pr G z ad M [.ref (ad 60)]) (Ni G z ad (fun (r : Int32) (M' : Mem) => r = nI 0 ∧ M' 60 = some (cModel ad 0 ln on ao vr sn tp pt zs bg fa) ∧ (∀ j : Nat, j ≠ 60 → M' j = M j))) 0 0 (fr z) := by
  refine Met.ofW (cc := cX10_part) (maxL := 1) (ret := (some .boolean)) (by decide) rfl ?_
  intro p e s m args below meth c s₁ B hml hv
  obtain ⟨rfl, hv⟩ := hv
  have hI := Iv.entry hv
  have hx := B.exec
  have hb := B.bytes
  have hr := B.returns
  have hts := atoms_spec (ws := wsX10_part) B.pre
  have hown : s.vm.findClass RX10 = some m.cls := findClass_of_methodNamed B.named
  have hlocks := B.notSynchronized
  have f_3 := hts _ (List.mem_cons_of_mem _ (lwg_of t_1013 rfl))
  have i_RX10 : ∀ w ∈ u_ws RX10 TX10 38, w ∈ wsX10_part := fun w h => List.mem_cons_of_mem _ (iu_X10 w h)
  have f_152 := hts _ (List.mem_cons_of_mem _ (lwg_of t_1028 rfl))
  have hl := lv_entry ([.ref (ad 60)]) (n := 1) (Nat.le_of_ble_eq_true rfl)
  rw [lg_entry_eq]
  generalize (lg_sl ([.ref (ad 60)]) ++ List.replicate (1 - (lg_sl ([.ref (ad 60)])).length) Slot.unset).toArray = ls at hl ⊢
  have hl : lv_has ls 1 [(0, .ref (ad 60))] := hl
  refine lv_aload_n hx hb dX10_part_0 rfl (lv_at hl 0 rfl) ?_
  refine lv_iconst (v := nI 0) hx hb dX10_part_1 (by decide) ?_
  refine h_put (C := RX10) (T := TX10) (N := 38) hx hb hts i_RX10 tyX10 tyX10_ok nmX10 hown hI h60 rfl 0 (by decide) f_3 rfl rfl rfl rfl (Nat.le_of_ble_eq_true rfl) dX10_part_2 (fun M_1 H_2 locs_3 eM_4 hI => ?_)
  have hm_5 : M_1 60 = some (cModel ad 0 ln on ao vr sn tp pt zs bg fa) := by rw [eM_4]; exact va_up_self _ _ _
  have hF_6 : ∀ j : Nat, j ≠ 60 → M_1 j = M j := fun j q0 => by rw [eM_4, va_up_ne _ _ q0]
  refine lv_aload_n hx hb dX10_part_5 rfl (lv_at hl 0 rfl) ?_
  refine h_get (C := RX10) (T := TX10) (N := 38) hx hb hts i_RX10 hown hI hm_5 rfl 15 (by decide) f_152 rfl rfl dX10_part_6 ?_
  refine lv_if_ne (tgt := 14) hx hb dX10_part_9 (by decide) (fun c_7 => ?_) (fun c_7 => ?_)
  · -- 9: nI on ne
    have c_7 : on ≠ 0 := by have h := mt (nI_eq (a := on) (b := 0) (by omega) (by omega)).mpr c_7; omega
    omega
  · -- 9: nI on eq
    have c_7 : on = 0 := (nI_eq (a := on) (b := 0) (by omega) (by omega)).mp (c_7)
    refine lv_iconst (v := nI 0) hx hb dX10_part_12 (by decide) ?_
    exact e_Ni hx hb hr rfl hlocks hI ⟨rfl, hm_5, (fun j q0 => hF_6 j q0)⟩ dX10_part_13

/-- X10_part -/
abbrev rm_c_X10_part : Room := { frames := 2, cells := 0, slots := 0, locals := 54 }
set_option maxHeartbeats 4000000 in
set_option maxRecDepth 100000 in
theorem c_X10_part (l : Launch) (G : GG) (z : Nat) (ad : Nat → Nat) (M : Mem) {th : Nat} {ln : Nat} {on : Nat} {ao : Nat} {vr : Nat} {sn : Nat} {tp : Nat} {pt : Nat} {zs : Nat} {bg : Nat} {fa : Int32} {lst : Nat → Nat} {oa : Nat → Nat} {ob : Nat → Nat} (h60 : M 60 = some (cModel ad th ln on ao vr sn tp pt zs bg fa)) (h71 : M 71 = some (aI G 40 (nF lst))) (h72 : M 72 = some (aI G 40 (nF oa))) (h73 : M 73 = some (aI G 40 (nF ob))) (ho0 : 0 < on) (hon : on ≤ 40) (hab : ∀ i, i < on → oa i < 40 ∧ ob i < 40) : Met l yX10_part wsX10_part rm_c_X10_part (Pr G z ad M [.ref (ad 60)]) (Ni G z ad (fun (r : Int32) (M' : Mem) => ∃ l2 : Nat → Nat, r = nI 1 ∧ M' 60 = some (cModel ad 0 ln (on - 1) ao vr sn tp pt zs bg fa) ∧ M' 71 = some (aI G 40 (nF l2)) ∧ (∀ j : Nat, j ≠ 60 → j ≠ 71 → M' j = M j) ∧ (∀ t, t < 40 → l2 t = asK oa ob (on - 1) t))) 0 0 (fr z) := by
  refine Met.ofW (cc := cX10_part) (maxL := 1) (ret := (some .boolean)) (by decide) rfl ?_
  intro p e s m args below meth c s₁ B hml hv
  obtain ⟨rfl, hv⟩ := hv
  have hI := Iv.entry hv
  have hx := B.exec
  have hb := B.bytes
  have hr := B.returns
  have hts := atoms_spec (ws := wsX10_part) B.pre
  have hown : s.vm.findClass RX10 = some m.cls := findClass_of_methodNamed B.named
  have hlocks := B.notSynchronized
  have f_3 := hts _ (List.mem_cons_of_mem _ (lwg_of t_1013 rfl))
  have i_RX10 : ∀ w ∈ u_ws RX10 TX10 38, w ∈ wsX10_part := fun w h => List.mem_cons_of_mem _ (iu_X10 w h)
  have f_152 := hts _ (List.mem_cons_of_mem _ (lwg_of t_1028 rfl))
  have hl := lv_entry ([.ref (ad 60)]) (n := 1) (Nat.le_of_ble_eq_true rfl)
  rw [lg_entry_eq]
  generalize (lg_sl ([.ref (ad 60)]) ++ List.replicate (1 - (lg_sl ([.ref (ad 60)])).length) Slot.unset).toArray = ls at hl ⊢
  have hl : lv_has ls 1 [(0, .ref (ad 60))] := hl
  refine lv_aload_n hx hb dX10_part_0 rfl (lv_at hl 0 rfl) ?_
  refine lv_iconst (v := nI 0) hx hb dX10_part_1 (by decide) ?_
  refine h_put (C := RX10) (T := TX10) (N := 38) hx hb hts i_RX10 tyX10 tyX10_ok nmX10 hown hI h60 rfl 0 (by decide) f_3 rfl rfl rfl rfl (Nat.le_of_ble_eq_true rfl) dX10_part_2 (fun M_1 H_2 locs_3 eM_4 hI => ?_)
  have hm_5 : M_1 60 = some (cModel ad 0 ln on ao vr sn tp pt zs bg fa) := by rw [eM_4]; exact va_up_self _ _ _
  have hm_6 : M_1 71 = some (aI G 40 (nF lst)) := by rw [eM_4, va_up_ne _ _ (by decide)]; exact h71
  have hm_7 : M_1 72 = some (aI G 40 (nF oa)) := by rw [eM_4, va_up_ne _ _ (by decide)]; exact h72
  have hm_8 : M_1 73 = some (aI G 40 (nF ob)) := by rw [eM_4, va_up_ne _ _ (by decide)]; exact h73
  have hF_9 : ∀ j : Nat, j ≠ 60 → M_1 j = M j := fun j q0 => by rw [eM_4, va_up_ne _ _ q0]
  refine lv_aload_n hx hb dX10_part_5 rfl (lv_at hl 0 rfl) ?_
  refine h_get (C := RX10) (T := TX10) (N := 38) hx hb hts i_RX10 hown hI hm_5 rfl 15 (by decide) f_152 rfl rfl dX10_part_6 ?_
  refine lv_if_ne (tgt := 14) hx hb dX10_part_9 (by decide) (fun c_10 => ?_) (fun c_10 => ?_)
  · -- 9: nI on ne
    have c_10 : on ≠ 0 := by have h := mt (nI_eq (a := on) (b := 0) (by omega) (by omega)).mpr c_10; omega
    refine lv_aload_n hx hb dX10_part_14 rfl (lv_at hl 0 rfl) ?_
    refine lv_dup hx hb dX10_part_15 rfl ?_
    refine h_get (C := RX10) (T := TX10) (N := 38) hx hb hts i_RX10 hown hI hm_5 rfl 15 (by decide) f_152 rfl rfl dX10_part_16 ?_
    refine lv_iconst (v := nI 1) hx hb dX10_part_19 (by decide) ?_
    refine lv_isub hx hb dX10_part_20 ?_
    refine n_eq (pk_sub (a := on) (b := 1) (by omega)) ?_
    refine h_put (C := RX10) (T := TX10) (N := 38) hx hb hts i_RX10 tyX10 tyX10_ok nmX10 hown hI hm_5 rfl 15 (by decide) f_152 rfl rfl rfl rfl (Nat.le_of_ble_eq_true rfl) dX10_part_21 (fun M_11 H_12 locs_13 eM_14 hI => ?_)
    have hm_15 : M_11 60 = some (cModel ad 0 ln (on - 1) ao vr sn tp pt zs bg fa) := by rw [eM_14]; exact va_up_self _ _ _
    have hm_16 : M_11 71 = some (aI G 40 (nF lst)) := by rw [eM_14, va_up_ne _ _ (by decide)]; exact hm_6
    have hm_17 : M_11 72 = some (aI G 40 (nF oa)) := by rw [eM_14, va_up_ne _ _ (by decide)]; exact hm_7
    have hm_18 : M_11 73 = some (aI G 40 (nF ob)) := by rw [eM_14, va_up_ne _ _ (by decide)]; exact hm_8
    have hF_19 : ∀ j : Nat, j ≠ 60 → M_11 j = M j := fun j q0 => by rw [eM_14, va_up_ne _ _ q0]; exact hF_9 j q0
    refine lv_aload_n hx hb dX10_part_24 rfl (lv_at hl 0 rfl) ?_
    refine k_Nv (va_runV (As := []) (rest := []) ⟨hx, hb, hml, hown, hts⟩ (c_X10_counts l G z ad M_11 (th := 0) (ln := ln) (on := on - 1) (ao := ao) (vr := vr) (sn := sn) (tp := tp) (pt := pt) (zs := zs) (bg := bg) (fa := fa) (lst := lst) (oa := oa) (ob := ob) hm_15 hm_16 hm_17 hm_18 (by omega) (fun i hi => hab i (by omega))) (cwV 0 hts (gV (lwg_of t_1008 rfl) (lwg_of t_1010 rfl) (lwg_of ts_22 rfl) (lwg_of t_13 rfl) (lwg_of t_1011 rfl)) rfl rfl rfl (by decide +kernel) ⟨Nat.le_of_ble_eq_true rfl, Nat.le_of_ble_eq_true rfl⟩) (hI.preV hm_15 rfl) rfl rfl hl.1 rfl (lv_room (Nat.le_of_ble_eq_true rfl)) dX10_part_25 ⟨Nat.le_of_ble_eq_true rfl, Nat.le_of_ble_eq_true rfl⟩) hI (fun M_22 H_23 locs_24 hp_21 hI => ?_)
    obtain ⟨l2_28, hm_25, hF_26, hP_27⟩ := hp_21
    have hm_29 : M_22 60 = some (cModel ad 0 ln (on - 1) ao vr sn tp pt zs bg fa) := by rw [hF_26 60 (by omega)]; exact hm_15
    have hm_30 : M_22 72 = some (aI G 40 (nF oa)) := by rw [hF_26 72 (by omega)]; exact hm_17
    have hm_31 : M_22 73 = some (aI G 40 (nF ob)) := by rw [hF_26 73 (by omega)]; exact hm_18
    have hF_32 : ∀ j : Nat, j ≠ 60 → j ≠ 71 → M_22 j = M j := fun j q0 q1 => (hF_26 j q1).trans (hF_19 j q0)
    refine lv_iconst (v := nI 1) hx hb dX10_part_28 (by decide) ?_
    exact e_Ni hx hb hr rfl hlocks hI ⟨l2_28, rfl, hm_29, hm_25, (fun j q0 q1 => hF_32 j q0 q1), hP_27⟩ dX10_part_29
  · -- 9: nI on eq
    have c_10 : on = 0 := (nI_eq (a := on) (b := 0) (by omega) (by omega)).mp (c_10)
    omega

theorem th_y {e : Nat → Nat} {j : Nat} (h : e j < 40) : nI (e j) = oI (thE e j) := by rw [thE, if_pos h]; rfl
theorem th_n {e : Nat → Nat} {j : Nat} (h : 40 ≤ e j) (h1 : e j < 1000) : -1 = oI (thE e j) := by rw [thE, if_neg (by omega), if_pos h1]; rfl
theorem ol_n {e : Nat → Nat} {j : Nat} (h : e j < 40) : -1 = oI (olE e j) := by rw [olE, if_pos h]; rfl
theorem ol_y {e : Nat → Nat} {j : Nat} (h : 40 ≤ e j) (h1 : e j < 1000) : nI (e j - 40) = oI (olE e j) := by rw [olE, if_neg (by omega), if_pos h1]; rfl

/-- X10_ended -/
abbrev rm_c_X10_ended_0 : Room := { frames := 2, cells := 0, slots := 0, locals := 43 }
set_option maxHeartbeats 4000000 in
set_option maxRecDepth 100000 in
theorem c_X10_ended_0 (l : Launch) (G : GG) (z : Nat) (ad : Nat → Nat) (M : Mem) {th : Nat} {on : Nat} {ao : Nat} {vr : Nat} {sn : Nat} {tp : Nat} {pt : Nat} {zs : Nat} {bg : Nat} {fa : Int32} {n : Nat} {kd : Nat → Nat} {fm : Nat → Int32} {to : Nat → Int32} {sz : Nat → Nat} {rl : Nat → Nat → Nat} {en : Nat → Nat → Nat} {mk : Nat → Nat} {mf : Nat → Int32} {mu : Nat → Int32} {mz : Nat → Nat} {rr : Nat → Nat} {ee : Nat → Nat} {q : Nat} {i : Nat} (h60 : M 60 = some (cModel ad th n on ao vr sn tp pt zs bg fa)) (h68 : M 68 = some (aI G 121 (nF mz))) (h69 : M 69 = some (aI G 726 (nF rr))) (h70 : M 70 = some (aI G 726 (nF ee))) (hw : LSw n kd sz rl en) (hmr : MRel n kd fm to sz rl en mk mf mu mz rr ee) (hq : q < n) (hi : i < sz q) : Met l yX10_ended wsX10_ended rm_c_X10_ended_0 (Pr G z ad M [.ref (ad 60), .int (nI q), .int (nI i), .int (nI 0)]) (Ni G z ad (fun (r : Int32) (M' : Mem) => r = nI (rl q i) ∧ M' 60 = some (cModel ad 0 n on ao vr sn tp pt zs bg fa) ∧ (∀ j : Nat, j ≠ 60 → M' j = M j))) 0 0 (fr z) := by
  refine Met.ofW (cc := cX10_ended) (maxL := 5) (ret := (some .int)) (by decide) rfl ?_
  intro p e s m args below meth c s₁ B hml hv
  obtain ⟨rfl, hv⟩ := hv
  have hI := Iv.entry hv
  have hx := B.exec
  have hb := B.bytes
  have hr := B.returns
  have hts := atoms_spec (ws := wsX10_ended) B.pre
  have hown : s.vm.findClass RX10 = some m.cls := findClass_of_methodNamed B.named
  have hlocks := B.notSynchronized
  have f_3 := hts _ (List.mem_cons_of_mem _ (lwg_of t_1013 rfl))
  have i_RX10 : ∀ w ∈ u_ws RX10 TX10 38, w ∈ wsX10_ended := fun w h => List.mem_cons_of_mem _ (iu_X10 w h)
  have f_36 := hts _ (List.mem_cons_of_mem _ (lwg_of t_1021 rfl))
  have f_39 := hts _ (List.mem_cons_of_mem _ (lwg_of t_1022 rfl))
  have hl := lv_entry ([.ref (ad 60), .int (nI q), .int (nI i), .int (nI 0)]) (n := 5) (Nat.le_of_ble_eq_true rfl)
  rw [lg_entry_eq]
  generalize (lg_sl ([.ref (ad 60), .int (nI q), .int (nI i), .int (nI 0)]) ++ List.replicate (5 - (lg_sl ([.ref (ad 60), .int (nI q), .int (nI i), .int (nI 0)])).length) Slot.unset).toArray = ls at hl ⊢
  have hl : lv_has ls 5 [(0, .ref (ad 60)), (1, .int (nI q)), (2, .int (nI i)), (3, .int (nI 0))] := hl
  have hw1 := hw.1
  obtain ⟨hk6, hs6, hje⟩ := hw.2 q hq
  obtain ⟨hmk, hmf, hmt, hmz, hmj⟩ := hmr q hq
  obtain ⟨hrj, hej⟩ := hmj i hi
  obtain ⟨hr6, he4⟩ := hje i hi
  refine lv_aload_n hx hb dX10_ended_0 rfl (lv_at hl 0 rfl) ?_
  refine lv_iconst (v := nI 0) hx hb dX10_ended_1 (by decide) ?_
  refine h_put (C := RX10) (T := TX10) (N := 38) hx hb hts i_RX10 tyX10 tyX10_ok nmX10 hown hI h60 rfl 0 (by decide) f_3 rfl rfl rfl rfl (Nat.le_of_ble_eq_true rfl) dX10_ended_2 (fun M_1 H_2 locs_3 eM_4 hI => ?_)
  have hm_5 : M_1 60 = some (cModel ad 0 n on ao vr sn tp pt zs bg fa) := by rw [eM_4]; exact va_up_self _ _ _
  have hm_6 : M_1 68 = some (aI G 121 (nF mz)) := by rw [eM_4, va_up_ne _ _ (by decide)]; exact h68
  have hm_7 : M_1 69 = some (aI G 726 (nF rr)) := by rw [eM_4, va_up_ne _ _ (by decide)]; exact h69
  have hm_8 : M_1 70 = some (aI G 726 (nF ee)) := by rw [eM_4, va_up_ne _ _ (by decide)]; exact h70
  have hF_9 : ∀ j : Nat, j ≠ 60 → M_1 j = M j := fun j q0 => by rw [eM_4, va_up_ne _ _ q0]
  refine lv_aload_n hx hb dX10_ended_5 rfl (lv_at hl 0 rfl) ?_
  refine lv_aload_n hx hb dX10_ended_6 rfl (lv_at hl 0 rfl) ?_
  refine lv_iload_n hx hb dX10_ended_7 rfl (lv_at hl 1 rfl) ?_
  refine k_Ri (va_runV (As := [.int (nI q)]) (rest := [.ref (ad 60)]) ⟨hx, hb, hml, hown, hts⟩ (c_X10_noLine_0 l G z ad M_1 (th := 0) (ln := n) (on := on) (ao := ao) (vr := vr) (sn := sn) (tp := tp) (pt := pt) (zs := zs) (bg := bg) (fa := fa) (t := q) hm_5 (by omega) (by omega)) (cwV 1 hts (gV (lwg_of t_1157 rfl) (lwg_of t_1159 rfl) (lwg_of ts_24 rfl) (lwg_of t_13 rfl) (lwg_of t_1160 rfl)) rfl rfl rfl (by decide +kernel) ⟨Nat.le_of_ble_eq_true rfl, Nat.le_of_ble_eq_true rfl⟩) (hI.preV hm_5 rfl) rfl rfl hl.1 rfl (lv_room (Nat.le_of_ble_eq_true rfl)) dX10_ended_8 ⟨Nat.le_of_ble_eq_true rfl, Nat.le_of_ble_eq_true rfl⟩) (fun _ h => h) (fun r_10 hp_11 => ?_)
  rw [hp_11]
  refine lv_iconst (v := nI 1) hx hb dX10_ended_11 (by decide) ?_
  refine k_Ri (va_runV (As := [.int (nI 0), .int (nI 1)]) (rest := []) ⟨hx, hb, hml, hown, hts⟩ (c_X10_throwsIf_0 l G z ad M_1 (th := 0) (ln := n) (on := on) (ao := ao) (vr := vr) (sn := sn) (tp := tp) (pt := pt) (zs := zs) (bg := bg) (fa := fa) (c0 := 1) hm_5) (cwV 2 hts (gV (lwg_of t_1141 rfl) (lwg_of t_1143 rfl) (lwg_of ts_23 rfl) (lwg_of t_13 rfl) (lwg_of t_1144 rfl)) rfl rfl rfl (by decide +kernel) ⟨Nat.le_of_ble_eq_true rfl, Nat.le_of_ble_eq_true rfl⟩) (hI.preV hm_5 rfl) rfl rfl hl.1 rfl (lv_room (Nat.le_of_ble_eq_true rfl)) dX10_ended_12 ⟨Nat.le_of_ble_eq_true rfl, Nat.le_of_ble_eq_true rfl⟩) (fun _ h => h) (fun r_12 hp_13 => ?_)
  rw [hp_13]
  refine lv_if_ne (tgt := 56) hx hb dX10_ended_15 (by decide) (fun c_14 => ?_) (fun c_14 => ?_)
  · -- 15: nI 0 ne
    exact absurd (by decide) c_14
  · -- 15: nI 0 eq
    refine lv_aload_n hx hb dX10_ended_18 rfl (lv_at hl 0 rfl) ?_
    refine lv_iload_n hx hb dX10_ended_19 rfl (lv_at hl 2 rfl) ?_
    refine lv_iconst (v := nI 0) hx hb dX10_ended_20 (by decide) ?_
    refine lv_aload_n hx hb dX10_ended_21 rfl (lv_at hl 0 rfl) ?_
    refine h_get (C := RX10) (T := TX10) (N := 38) hx hb hts i_RX10 hown hI hm_5 rfl 8 (by decide) f_36 rfl rfl dX10_ended_22 ?_
    refine lv_iload_n hx hb dX10_ended_25 rfl (lv_at hl 1 rfl) ?_
    refine h_iald (i := q) hx hb hI hm_6 (by omega) (by decide) dX10_ended_26 ?_
    refine n_eq (show _ = nI (sz q) from congrArg nI hmz) ?_
    refine lv_iconst (v := nI 1) hx hb dX10_ended_27 (by decide) ?_
    refine lv_isub hx hb dX10_ended_28 ?_
    refine n_eq (pk_sub (a := sz q) (b := 1) (by omega)) ?_
    refine k_Ri (va_runS (As := [.int (nI i), .int (nI 0), .int (nI ((sz q) - 1))]) (rest := [.ref (ad 60)]) ⟨hx, hb, hml, hown, hts⟩ (c_X10_in l G z ad M_1 (x := nI i) (a := nI 0) (b := nI ((sz q) - 1)) ) (va_cwS 3 hts (gS (lwg_of t_1135 rfl) (lwg_of t_1136 rfl) (lwg_of t_13 rfl) (lwg_of t_1137 rfl)) rfl rfl rfl (by decide +kernel) ⟨Nat.le_of_ble_eq_true rfl, Nat.le_of_ble_eq_true rfl⟩) hI.preS rfl rfl hl.1 rfl (lv_room (Nat.le_of_ble_eq_true rfl)) dX10_ended_29 ⟨Nat.le_of_ble_eq_true rfl, Nat.le_of_ble_eq_true rfl⟩) (fun _ h => h) (fun r_15 hp_16 => ?_)
    rw [hp_16]
    refine n_eq (show _ = nI 1 from by rw [inB_t (by omega) (by omega)]; rfl) ?_
    refine lv_if_eq (tgt := 44) hx hb dX10_ended_32 (by decide) (fun c_17 => ?_) (fun c_17 => ?_)
    · -- 32: nI 1 eq
      exact absurd c_17 (by decide)
    · -- 32: nI 1 ne
      refine lv_iload_n hx hb dX10_ended_35 rfl (lv_at hl 3 rfl) ?_
      refine lv_iconst (v := nI 0) hx hb dX10_ended_36 (by decide) ?_
      refine lv_iconst (v := nI 2) hx hb dX10_ended_37 (by decide) ?_
      refine k_Ri (va_runS (As := [.int (nI 0), .int (nI 0), .int (nI 2)]) (rest := [.ref (ad 60)]) ⟨hx, hb, hml, hown, hts⟩ (c_X10_in l G z ad M_1 (x := nI 0) (a := nI 0) (b := nI 2) ) (va_cwS 3 hts (gS (lwg_of t_1135 rfl) (lwg_of t_1136 rfl) (lwg_of t_13 rfl) (lwg_of t_1137 rfl)) rfl rfl rfl (by decide +kernel) ⟨Nat.le_of_ble_eq_true rfl, Nat.le_of_ble_eq_true rfl⟩) hI.preS rfl rfl hl.1 rfl (lv_room (Nat.le_of_ble_eq_true rfl)) dX10_ended_38 ⟨Nat.le_of_ble_eq_true rfl, Nat.le_of_ble_eq_true rfl⟩) (fun _ h => h) (fun r_18 hp_19 => ?_)
      rw [hp_19]
      refine n_eq (show _ = nI 1 from by rw [inB_t (t := 0) (by decide) (by decide)]; rfl) ?_
      refine lv_if_ne (tgt := 48) hx hb dX10_ended_41 (by decide) (fun c_20 => ?_) (fun c_20 => ?_)
      · -- 41: nI 1 ne
        refine lv_iconst (v := nI 0) hx hb dX10_ended_48 (by decide) ?_
        refine lv_iconst (v := nI 2) hx hb dX10_ended_49 (by decide) ?_
        refine k_Ri (va_runV (As := [.int (nI 0), .int (nI 2)]) (rest := []) ⟨hx, hb, hml, hown, hts⟩ (c_X10_throwsIf_0 l G z ad M_1 (th := 0) (ln := n) (on := on) (ao := ao) (vr := vr) (sn := sn) (tp := tp) (pt := pt) (zs := zs) (bg := bg) (fa := fa) (c0 := 2) hm_5) (cwV 2 hts (gV (lwg_of t_1141 rfl) (lwg_of t_1143 rfl) (lwg_of ts_23 rfl) (lwg_of t_13 rfl) (lwg_of t_1144 rfl)) rfl rfl rfl (by decide +kernel) ⟨Nat.le_of_ble_eq_true rfl, Nat.le_of_ble_eq_true rfl⟩) (hI.preV hm_5 rfl) rfl rfl hl.1 rfl (lv_room (Nat.le_of_ble_eq_true rfl)) dX10_ended_50 ⟨Nat.le_of_ble_eq_true rfl, Nat.le_of_ble_eq_true rfl⟩) (fun _ h => h) (fun r_21 hp_22 => ?_)
        rw [hp_22]
        refine lv_if_eq (tgt := 58) hx hb dX10_ended_53 (by decide) (fun c_23 => ?_) (fun c_23 => ?_)
        · -- 53: nI 0 eq
          refine lv_bipush (v := nI 6) hx hb dX10_ended_58 (by decide) ?_
          refine lv_iload_n hx hb dX10_ended_60 rfl (lv_at hl 1 rfl) ?_
          refine lv_imul hx hb dX10_ended_61 ?_
          refine n_eq (pk_mul 6 q) ?_
          refine lv_iload_n hx hb dX10_ended_62 rfl (lv_at hl 2 rfl) ?_
          refine lv_iadd hx hb dX10_ended_63 ?_
          refine n_eq (nI_add (6 * q) i) ?_
          refine lv_istore (lv' := [(4, .int (nI ((6 * q) + i))), (0, .ref (ad 60)), (1, .int (nI q)), (2, .int (nI i)), (3, .int (nI 0))]) hx hb dX10_ended_64 hl (by decide) rfl (fun ls hl => ?_)
          refine lv_iload_n hx hb dX10_ended_66 rfl (lv_at hl 4 rfl) ?_
          refine lv_if_ne (tgt := 80) hx hb dX10_ended_67 (by decide) (fun c_24 => ?_) (fun c_24 => ?_)
          · -- 67: nI 0 ne
            exact absurd (by decide) c_24
          · -- 67: nI 0 eq
            refine lv_aload_n hx hb dX10_ended_70 rfl (lv_at hl 1 rfl) ?_
            refine h_get (C := RX10) (T := TX10) (N := 38) hx hb hts i_RX10 hown hI hm_5 rfl 9 (by decide) f_39 rfl rfl dX10_ended_71 ?_
            refine lv_iload hx hb dX10_ended_74 (lv_at hl 0 rfl) ?_
            refine h_iald (i := (6 * q) + i) hx hb hI hm_7 (by omega) (by decide) dX10_ended_76 ?_
            refine n_eq (show _ = nI (rl q i) from congrArg nI hrj) ?_
            refine lv_goto (tgt := 137) hx hb dX10_ended_77 (by decide) ?_
            exact e_Ni hx hb hr rfl hlocks hI ⟨rfl, hm_5, (fun j q0 => hF_9 j q0)⟩ dX10_ended_137
        · -- 53: nI 0 ne
          exact absurd (by decide) c_23
      · -- 41: nI 1 eq
        exact absurd c_20 (by decide)

/-- X10_ended -/
abbrev rm_c_X10_ended_1 : Room := { frames := 2, cells := 0, slots := 0, locals := 43 }
set_option maxHeartbeats 4000000 in
set_option maxRecDepth 100000 in
theorem c_X10_ended_1 (l : Launch) (G : GG) (z : Nat) (ad : Nat → Nat) (M : Mem) {th : Nat} {on : Nat} {ao : Nat} {vr : Nat} {sn : Nat} {tp : Nat} {pt : Nat} {zs : Nat} {bg : Nat} {fa : Int32} {n : Nat} {kd : Nat → Nat} {fm : Nat → Int32} {to : Nat → Int32} {sz : Nat → Nat} {rl : Nat → Nat → Nat} {en : Nat → Nat → Nat} {mk : Nat → Nat} {mf : Nat → Int32} {mu : Nat → Int32} {mz : Nat → Nat} {rr : Nat → Nat} {ee : Nat → Nat} {q : Nat} {i : Nat} (h60 : M 60 = some (cModel ad th n on ao vr sn tp pt zs bg fa)) (h68 : M 68 = some (aI G 121 (nF mz))) (h69 : M 69 = some (aI G 726 (nF rr))) (h70 : M 70 = some (aI G 726 (nF ee))) (hw : LSw n kd sz rl en) (hmr : MRel n kd fm to sz rl en mk mf mu mz rr ee) (hq : q < n) (hi : i < sz q) : Met l yX10_ended wsX10_ended rm_c_X10_ended_1 (Pr G z ad M [.ref (ad 60), .int (nI q), .int (nI i), .int (nI 1)]) (Ni G z ad (fun (r : Int32) (M' : Mem) => r = oI (thE (en q) i) ∧ M' 60 = some (cModel ad 0 n on ao vr sn tp pt zs bg fa) ∧ (∀ j : Nat, j ≠ 60 → M' j = M j))) 0 0 (fr z) := by
  refine Met.ofW (cc := cX10_ended) (maxL := 5) (ret := (some .int)) (by decide) rfl ?_
  intro p e s m args below meth c s₁ B hml hv
  obtain ⟨rfl, hv⟩ := hv
  have hI := Iv.entry hv
  have hx := B.exec
  have hb := B.bytes
  have hr := B.returns
  have hts := atoms_spec (ws := wsX10_ended) B.pre
  have hown : s.vm.findClass RX10 = some m.cls := findClass_of_methodNamed B.named
  have hlocks := B.notSynchronized
  have f_3 := hts _ (List.mem_cons_of_mem _ (lwg_of t_1013 rfl))
  have i_RX10 : ∀ w ∈ u_ws RX10 TX10 38, w ∈ wsX10_ended := fun w h => List.mem_cons_of_mem _ (iu_X10 w h)
  have f_36 := hts _ (List.mem_cons_of_mem _ (lwg_of t_1021 rfl))
  have f_42 := hts _ (List.mem_cons_of_mem _ (lwg_of t_1023 rfl))
  have hl := lv_entry ([.ref (ad 60), .int (nI q), .int (nI i), .int (nI 1)]) (n := 5) (Nat.le_of_ble_eq_true rfl)
  rw [lg_entry_eq]
  generalize (lg_sl ([.ref (ad 60), .int (nI q), .int (nI i), .int (nI 1)]) ++ List.replicate (5 - (lg_sl ([.ref (ad 60), .int (nI q), .int (nI i), .int (nI 1)])).length) Slot.unset).toArray = ls at hl ⊢
  have hl : lv_has ls 5 [(0, .ref (ad 60)), (1, .int (nI q)), (2, .int (nI i)), (3, .int (nI 1))] := hl
  have hw1 := hw.1
  obtain ⟨hk6, hs6, hje⟩ := hw.2 q hq
  obtain ⟨hmk, hmf, hmt, hmz, hmj⟩ := hmr q hq
  obtain ⟨hrj, hej⟩ := hmj i hi
  obtain ⟨hr6, he4⟩ := hje i hi
  refine lv_aload_n hx hb dX10_ended_0 rfl (lv_at hl 0 rfl) ?_
  refine lv_iconst (v := nI 0) hx hb dX10_ended_1 (by decide) ?_
  refine h_put (C := RX10) (T := TX10) (N := 38) hx hb hts i_RX10 tyX10 tyX10_ok nmX10 hown hI h60 rfl 0 (by decide) f_3 rfl rfl rfl rfl (Nat.le_of_ble_eq_true rfl) dX10_ended_2 (fun M_1 H_2 locs_3 eM_4 hI => ?_)
  have hm_5 : M_1 60 = some (cModel ad 0 n on ao vr sn tp pt zs bg fa) := by rw [eM_4]; exact va_up_self _ _ _
  have hm_6 : M_1 68 = some (aI G 121 (nF mz)) := by rw [eM_4, va_up_ne _ _ (by decide)]; exact h68
  have hm_7 : M_1 69 = some (aI G 726 (nF rr)) := by rw [eM_4, va_up_ne _ _ (by decide)]; exact h69
  have hm_8 : M_1 70 = some (aI G 726 (nF ee)) := by rw [eM_4, va_up_ne _ _ (by decide)]; exact h70
  have hF_9 : ∀ j : Nat, j ≠ 60 → M_1 j = M j := fun j q0 => by rw [eM_4, va_up_ne _ _ q0]
  refine lv_aload_n hx hb dX10_ended_5 rfl (lv_at hl 0 rfl) ?_
  refine lv_aload_n hx hb dX10_ended_6 rfl (lv_at hl 0 rfl) ?_
  refine lv_iload_n hx hb dX10_ended_7 rfl (lv_at hl 1 rfl) ?_
  refine k_Ri (va_runV (As := [.int (nI q)]) (rest := [.ref (ad 60)]) ⟨hx, hb, hml, hown, hts⟩ (c_X10_noLine_0 l G z ad M_1 (th := 0) (ln := n) (on := on) (ao := ao) (vr := vr) (sn := sn) (tp := tp) (pt := pt) (zs := zs) (bg := bg) (fa := fa) (t := q) hm_5 (by omega) (by omega)) (cwV 1 hts (gV (lwg_of t_1157 rfl) (lwg_of t_1159 rfl) (lwg_of ts_24 rfl) (lwg_of t_13 rfl) (lwg_of t_1160 rfl)) rfl rfl rfl (by decide +kernel) ⟨Nat.le_of_ble_eq_true rfl, Nat.le_of_ble_eq_true rfl⟩) (hI.preV hm_5 rfl) rfl rfl hl.1 rfl (lv_room (Nat.le_of_ble_eq_true rfl)) dX10_ended_8 ⟨Nat.le_of_ble_eq_true rfl, Nat.le_of_ble_eq_true rfl⟩) (fun _ h => h) (fun r_10 hp_11 => ?_)
  rw [hp_11]
  refine lv_iconst (v := nI 1) hx hb dX10_ended_11 (by decide) ?_
  refine k_Ri (va_runV (As := [.int (nI 0), .int (nI 1)]) (rest := []) ⟨hx, hb, hml, hown, hts⟩ (c_X10_throwsIf_0 l G z ad M_1 (th := 0) (ln := n) (on := on) (ao := ao) (vr := vr) (sn := sn) (tp := tp) (pt := pt) (zs := zs) (bg := bg) (fa := fa) (c0 := 1) hm_5) (cwV 2 hts (gV (lwg_of t_1141 rfl) (lwg_of t_1143 rfl) (lwg_of ts_23 rfl) (lwg_of t_13 rfl) (lwg_of t_1144 rfl)) rfl rfl rfl (by decide +kernel) ⟨Nat.le_of_ble_eq_true rfl, Nat.le_of_ble_eq_true rfl⟩) (hI.preV hm_5 rfl) rfl rfl hl.1 rfl (lv_room (Nat.le_of_ble_eq_true rfl)) dX10_ended_12 ⟨Nat.le_of_ble_eq_true rfl, Nat.le_of_ble_eq_true rfl⟩) (fun _ h => h) (fun r_12 hp_13 => ?_)
  rw [hp_13]
  refine lv_if_ne (tgt := 56) hx hb dX10_ended_15 (by decide) (fun c_14 => ?_) (fun c_14 => ?_)
  · -- 15: nI 0 ne
    exact absurd (by decide) c_14
  · -- 15: nI 0 eq
    refine lv_aload_n hx hb dX10_ended_18 rfl (lv_at hl 0 rfl) ?_
    refine lv_iload_n hx hb dX10_ended_19 rfl (lv_at hl 2 rfl) ?_
    refine lv_iconst (v := nI 0) hx hb dX10_ended_20 (by decide) ?_
    refine lv_aload_n hx hb dX10_ended_21 rfl (lv_at hl 0 rfl) ?_
    refine h_get (C := RX10) (T := TX10) (N := 38) hx hb hts i_RX10 hown hI hm_5 rfl 8 (by decide) f_36 rfl rfl dX10_ended_22 ?_
    refine lv_iload_n hx hb dX10_ended_25 rfl (lv_at hl 1 rfl) ?_
    refine h_iald (i := q) hx hb hI hm_6 (by omega) (by decide) dX10_ended_26 ?_
    refine n_eq (show _ = nI (sz q) from congrArg nI hmz) ?_
    refine lv_iconst (v := nI 1) hx hb dX10_ended_27 (by decide) ?_
    refine lv_isub hx hb dX10_ended_28 ?_
    refine n_eq (pk_sub (a := sz q) (b := 1) (by omega)) ?_
    refine k_Ri (va_runS (As := [.int (nI i), .int (nI 0), .int (nI ((sz q) - 1))]) (rest := [.ref (ad 60)]) ⟨hx, hb, hml, hown, hts⟩ (c_X10_in l G z ad M_1 (x := nI i) (a := nI 0) (b := nI ((sz q) - 1)) ) (va_cwS 3 hts (gS (lwg_of t_1135 rfl) (lwg_of t_1136 rfl) (lwg_of t_13 rfl) (lwg_of t_1137 rfl)) rfl rfl rfl (by decide +kernel) ⟨Nat.le_of_ble_eq_true rfl, Nat.le_of_ble_eq_true rfl⟩) hI.preS rfl rfl hl.1 rfl (lv_room (Nat.le_of_ble_eq_true rfl)) dX10_ended_29 ⟨Nat.le_of_ble_eq_true rfl, Nat.le_of_ble_eq_true rfl⟩) (fun _ h => h) (fun r_15 hp_16 => ?_)
    rw [hp_16]
    refine n_eq (show _ = nI 1 from by rw [inB_t (by omega) (by omega)]; rfl) ?_
    refine lv_if_eq (tgt := 44) hx hb dX10_ended_32 (by decide) (fun c_17 => ?_) (fun c_17 => ?_)
    · -- 32: nI 1 eq
      exact absurd c_17 (by decide)
    · -- 32: nI 1 ne
      refine lv_iload_n hx hb dX10_ended_35 rfl (lv_at hl 3 rfl) ?_
      refine lv_iconst (v := nI 0) hx hb dX10_ended_36 (by decide) ?_
      refine lv_iconst (v := nI 2) hx hb dX10_ended_37 (by decide) ?_
      refine k_Ri (va_runS (As := [.int (nI 1), .int (nI 0), .int (nI 2)]) (rest := [.ref (ad 60)]) ⟨hx, hb, hml, hown, hts⟩ (c_X10_in l G z ad M_1 (x := nI 1) (a := nI 0) (b := nI 2) ) (va_cwS 3 hts (gS (lwg_of t_1135 rfl) (lwg_of t_1136 rfl) (lwg_of t_13 rfl) (lwg_of t_1137 rfl)) rfl rfl rfl (by decide +kernel) ⟨Nat.le_of_ble_eq_true rfl, Nat.le_of_ble_eq_true rfl⟩) hI.preS rfl rfl hl.1 rfl (lv_room (Nat.le_of_ble_eq_true rfl)) dX10_ended_38 ⟨Nat.le_of_ble_eq_true rfl, Nat.le_of_ble_eq_true rfl⟩) (fun _ h => h) (fun r_18 hp_19 => ?_)
      rw [hp_19]
      refine n_eq (show _ = nI 1 from by rw [inB_t (t := 1) (by decide) (by decide)]; rfl) ?_
      refine lv_if_ne (tgt := 48) hx hb dX10_ended_41 (by decide) (fun c_20 => ?_) (fun c_20 => ?_)
      · -- 41: nI 1 ne
        refine lv_iconst (v := nI 0) hx hb dX10_ended_48 (by decide) ?_
        refine lv_iconst (v := nI 2) hx hb dX10_ended_49 (by decide) ?_
        refine k_Ri (va_runV (As := [.int (nI 0), .int (nI 2)]) (rest := []) ⟨hx, hb, hml, hown, hts⟩ (c_X10_throwsIf_0 l G z ad M_1 (th := 0) (ln := n) (on := on) (ao := ao) (vr := vr) (sn := sn) (tp := tp) (pt := pt) (zs := zs) (bg := bg) (fa := fa) (c0 := 2) hm_5) (cwV 2 hts (gV (lwg_of t_1141 rfl) (lwg_of t_1143 rfl) (lwg_of ts_23 rfl) (lwg_of t_13 rfl) (lwg_of t_1144 rfl)) rfl rfl rfl (by decide +kernel) ⟨Nat.le_of_ble_eq_true rfl, Nat.le_of_ble_eq_true rfl⟩) (hI.preV hm_5 rfl) rfl rfl hl.1 rfl (lv_room (Nat.le_of_ble_eq_true rfl)) dX10_ended_50 ⟨Nat.le_of_ble_eq_true rfl, Nat.le_of_ble_eq_true rfl⟩) (fun _ h => h) (fun r_21 hp_22 => ?_)
        rw [hp_22]
        refine lv_if_eq (tgt := 58) hx hb dX10_ended_53 (by decide) (fun c_23 => ?_) (fun c_23 => ?_)
        · -- 53: nI 0 eq
          refine lv_bipush (v := nI 6) hx hb dX10_ended_58 (by decide) ?_
          refine lv_iload_n hx hb dX10_ended_60 rfl (lv_at hl 1 rfl) ?_
          refine lv_imul hx hb dX10_ended_61 ?_
          refine n_eq (pk_mul 6 q) ?_
          refine lv_iload_n hx hb dX10_ended_62 rfl (lv_at hl 2 rfl) ?_
          refine lv_iadd hx hb dX10_ended_63 ?_
          refine n_eq (nI_add (6 * q) i) ?_
          refine lv_istore (lv' := [(4, .int (nI ((6 * q) + i))), (0, .ref (ad 60)), (1, .int (nI q)), (2, .int (nI i)), (3, .int (nI 1))]) hx hb dX10_ended_64 hl (by decide) rfl (fun ls hl => ?_)
          refine lv_iload_n hx hb dX10_ended_66 rfl (lv_at hl 4 rfl) ?_
          refine lv_if_ne (tgt := 80) hx hb dX10_ended_67 (by decide) (fun c_24 => ?_) (fun c_24 => ?_)
          · -- 67: nI 1 ne
            refine lv_iload_n hx hb dX10_ended_80 rfl (lv_at hl 4 rfl) ?_
            refine lv_iconst (v := nI 1) hx hb dX10_ended_81 (by decide) ?_
            refine lv_icmp_ne (tgt := 111) hx hb dX10_ended_82 (by decide) (fun c_25 => ?_) (fun c_25 => ?_)
            · -- 82: nI 1 ne
              exact absurd (by decide) c_25
            · -- 82: nI 1 eq
              refine lv_aload_n hx hb dX10_ended_85 rfl (lv_at hl 1 rfl) ?_
              refine h_get (C := RX10) (T := TX10) (N := 38) hx hb hts i_RX10 hown hI hm_5 rfl 10 (by decide) f_42 rfl rfl dX10_ended_86 ?_
              refine lv_iload hx hb dX10_ended_89 (lv_at hl 0 rfl) ?_
              refine h_iald (i := (6 * q) + i) hx hb hI hm_8 (by omega) (by decide) dX10_ended_91 ?_
              refine n_eq (show _ = nI (en q i) from congrArg nI hej) ?_
              refine lv_bipush (v := nI 40) hx hb dX10_ended_92 (by decide) ?_
              refine lv_icmp_ge (tgt := 107) hx hb dX10_ended_94 (by decide) (fun c_26 => ?_) (fun c_26 => ?_)
              · -- 94: nI (en q i) ge
                have c_26 : 40 ≤ en q i := (nI_leI (a := 40) (b := en q i) (by omega) (by omega)).mp (c_26)
                refine lv_iconst (v := (-1)) hx hb dX10_ended_107 (by decide) ?_
                refine lv_goto (tgt := 137) hx hb dX10_ended_108 (by decide) ?_
                exact e_Ni hx hb hr rfl hlocks hI ⟨(th_n (by assumption) (by omega)), hm_5, (fun j q0 => hF_9 j q0)⟩ dX10_ended_137
              · -- 94: nI (en q i) lt
                have c_26 : en q i < 40 := by have h := mt (nI_leI (a := 40) (b := en q i) (by omega) (by omega)).mpr c_26; omega
                refine lv_aload_n hx hb dX10_ended_97 rfl (lv_at hl 1 rfl) ?_
                refine h_get (C := RX10) (T := TX10) (N := 38) hx hb hts i_RX10 hown hI hm_5 rfl 10 (by decide) f_42 rfl rfl dX10_ended_98 ?_
                refine lv_iload hx hb dX10_ended_101 (lv_at hl 0 rfl) ?_
                refine h_iald (i := (6 * q) + i) hx hb hI hm_8 (by omega) (by decide) dX10_ended_103 ?_
                refine n_eq (show _ = nI (en q i) from congrArg nI hej) ?_
                refine lv_goto (tgt := 137) hx hb dX10_ended_104 (by decide) ?_
                exact e_Ni hx hb hr rfl hlocks hI ⟨(th_y (by assumption)), hm_5, (fun j q0 => hF_9 j q0)⟩ dX10_ended_137
          · -- 67: nI 1 eq
            exact absurd c_24 (by decide)
        · -- 53: nI 0 ne
          exact absurd (by decide) c_23
      · -- 41: nI 1 eq
        exact absurd c_20 (by decide)

/-- X10_ended -/
abbrev rm_c_X10_ended_2 : Room := { frames := 2, cells := 0, slots := 0, locals := 43 }
set_option maxHeartbeats 4000000 in
set_option maxRecDepth 100000 in
theorem c_X10_ended_2 (l : Launch) (G : GG) (z : Nat) (ad : Nat → Nat) (M : Mem) {th : Nat} {on : Nat} {ao : Nat} {vr : Nat} {sn : Nat} {tp : Nat} {pt : Nat} {zs : Nat} {bg : Nat} {fa : Int32} {n : Nat} {kd : Nat → Nat} {fm : Nat → Int32} {to : Nat → Int32} {sz : Nat → Nat} {rl : Nat → Nat → Nat} {en : Nat → Nat → Nat} {mk : Nat → Nat} {mf : Nat → Int32} {mu : Nat → Int32} {mz : Nat → Nat} {rr : Nat → Nat} {ee : Nat → Nat} {q : Nat} {i : Nat} (h60 : M 60 = some (cModel ad th n on ao vr sn tp pt zs bg fa)) (h68 : M 68 = some (aI G 121 (nF mz))) (h69 : M 69 = some (aI G 726 (nF rr))) (h70 : M 70 = some (aI G 726 (nF ee))) (hw : LSw n kd sz rl en) (hmr : MRel n kd fm to sz rl en mk mf mu mz rr ee) (hq : q < n) (hi : i < sz q) : Met l yX10_ended wsX10_ended rm_c_X10_ended_2 (Pr G z ad M [.ref (ad 60), .int (nI q), .int (nI i), .int (nI 2)]) (Ni G z ad (fun (r : Int32) (M' : Mem) => r = oI (olE (en q) i) ∧ M' 60 = some (cModel ad 0 n on ao vr sn tp pt zs bg fa) ∧ (∀ j : Nat, j ≠ 60 → M' j = M j))) 0 0 (fr z) := by
  refine Met.ofW (cc := cX10_ended) (maxL := 5) (ret := (some .int)) (by decide) rfl ?_
  intro p e s m args below meth c s₁ B hml hv
  obtain ⟨rfl, hv⟩ := hv
  have hI := Iv.entry hv
  have hx := B.exec
  have hb := B.bytes
  have hr := B.returns
  have hts := atoms_spec (ws := wsX10_ended) B.pre
  have hown : s.vm.findClass RX10 = some m.cls := findClass_of_methodNamed B.named
  have hlocks := B.notSynchronized
  have f_3 := hts _ (List.mem_cons_of_mem _ (lwg_of t_1013 rfl))
  have i_RX10 : ∀ w ∈ u_ws RX10 TX10 38, w ∈ wsX10_ended := fun w h => List.mem_cons_of_mem _ (iu_X10 w h)
  have f_36 := hts _ (List.mem_cons_of_mem _ (lwg_of t_1021 rfl))
  have f_42 := hts _ (List.mem_cons_of_mem _ (lwg_of t_1023 rfl))
  have hl := lv_entry ([.ref (ad 60), .int (nI q), .int (nI i), .int (nI 2)]) (n := 5) (Nat.le_of_ble_eq_true rfl)
  rw [lg_entry_eq]
  generalize (lg_sl ([.ref (ad 60), .int (nI q), .int (nI i), .int (nI 2)]) ++ List.replicate (5 - (lg_sl ([.ref (ad 60), .int (nI q), .int (nI i), .int (nI 2)])).length) Slot.unset).toArray = ls at hl ⊢
  have hl : lv_has ls 5 [(0, .ref (ad 60)), (1, .int (nI q)), (2, .int (nI i)), (3, .int (nI 2))] := hl
  have hw1 := hw.1
  obtain ⟨hk6, hs6, hje⟩ := hw.2 q hq
  obtain ⟨hmk, hmf, hmt, hmz, hmj⟩ := hmr q hq
  obtain ⟨hrj, hej⟩ := hmj i hi
  obtain ⟨hr6, he4⟩ := hje i hi
  refine lv_aload_n hx hb dX10_ended_0 rfl (lv_at hl 0 rfl) ?_
  refine lv_iconst (v := nI 0) hx hb dX10_ended_1 (by decide) ?_
  refine h_put (C := RX10) (T := TX10) (N := 38) hx hb hts i_RX10 tyX10 tyX10_ok nmX10 hown hI h60 rfl 0 (by decide) f_3 rfl rfl rfl rfl (Nat.le_of_ble_eq_true rfl) dX10_ended_2 (fun M_1 H_2 locs_3 eM_4 hI => ?_)
  have hm_5 : M_1 60 = some (cModel ad 0 n on ao vr sn tp pt zs bg fa) := by rw [eM_4]; exact va_up_self _ _ _
  have hm_6 : M_1 68 = some (aI G 121 (nF mz)) := by rw [eM_4, va_up_ne _ _ (by decide)]; exact h68
  have hm_7 : M_1 69 = some (aI G 726 (nF rr)) := by rw [eM_4, va_up_ne _ _ (by decide)]; exact h69
  have hm_8 : M_1 70 = some (aI G 726 (nF ee)) := by rw [eM_4, va_up_ne _ _ (by decide)]; exact h70
  have hF_9 : ∀ j : Nat, j ≠ 60 → M_1 j = M j := fun j q0 => by rw [eM_4, va_up_ne _ _ q0]
  refine lv_aload_n hx hb dX10_ended_5 rfl (lv_at hl 0 rfl) ?_
  refine lv_aload_n hx hb dX10_ended_6 rfl (lv_at hl 0 rfl) ?_
  refine lv_iload_n hx hb dX10_ended_7 rfl (lv_at hl 1 rfl) ?_
  refine k_Ri (va_runV (As := [.int (nI q)]) (rest := [.ref (ad 60)]) ⟨hx, hb, hml, hown, hts⟩ (c_X10_noLine_0 l G z ad M_1 (th := 0) (ln := n) (on := on) (ao := ao) (vr := vr) (sn := sn) (tp := tp) (pt := pt) (zs := zs) (bg := bg) (fa := fa) (t := q) hm_5 (by omega) (by omega)) (cwV 1 hts (gV (lwg_of t_1157 rfl) (lwg_of t_1159 rfl) (lwg_of ts_24 rfl) (lwg_of t_13 rfl) (lwg_of t_1160 rfl)) rfl rfl rfl (by decide +kernel) ⟨Nat.le_of_ble_eq_true rfl, Nat.le_of_ble_eq_true rfl⟩) (hI.preV hm_5 rfl) rfl rfl hl.1 rfl (lv_room (Nat.le_of_ble_eq_true rfl)) dX10_ended_8 ⟨Nat.le_of_ble_eq_true rfl, Nat.le_of_ble_eq_true rfl⟩) (fun _ h => h) (fun r_10 hp_11 => ?_)
  rw [hp_11]
  refine lv_iconst (v := nI 1) hx hb dX10_ended_11 (by decide) ?_
  refine k_Ri (va_runV (As := [.int (nI 0), .int (nI 1)]) (rest := []) ⟨hx, hb, hml, hown, hts⟩ (c_X10_throwsIf_0 l G z ad M_1 (th := 0) (ln := n) (on := on) (ao := ao) (vr := vr) (sn := sn) (tp := tp) (pt := pt) (zs := zs) (bg := bg) (fa := fa) (c0 := 1) hm_5) (cwV 2 hts (gV (lwg_of t_1141 rfl) (lwg_of t_1143 rfl) (lwg_of ts_23 rfl) (lwg_of t_13 rfl) (lwg_of t_1144 rfl)) rfl rfl rfl (by decide +kernel) ⟨Nat.le_of_ble_eq_true rfl, Nat.le_of_ble_eq_true rfl⟩) (hI.preV hm_5 rfl) rfl rfl hl.1 rfl (lv_room (Nat.le_of_ble_eq_true rfl)) dX10_ended_12 ⟨Nat.le_of_ble_eq_true rfl, Nat.le_of_ble_eq_true rfl⟩) (fun _ h => h) (fun r_12 hp_13 => ?_)
  rw [hp_13]
  refine lv_if_ne (tgt := 56) hx hb dX10_ended_15 (by decide) (fun c_14 => ?_) (fun c_14 => ?_)
  · -- 15: nI 0 ne
    exact absurd (by decide) c_14
  · -- 15: nI 0 eq
    refine lv_aload_n hx hb dX10_ended_18 rfl (lv_at hl 0 rfl) ?_
    refine lv_iload_n hx hb dX10_ended_19 rfl (lv_at hl 2 rfl) ?_
    refine lv_iconst (v := nI 0) hx hb dX10_ended_20 (by decide) ?_
    refine lv_aload_n hx hb dX10_ended_21 rfl (lv_at hl 0 rfl) ?_
    refine h_get (C := RX10) (T := TX10) (N := 38) hx hb hts i_RX10 hown hI hm_5 rfl 8 (by decide) f_36 rfl rfl dX10_ended_22 ?_
    refine lv_iload_n hx hb dX10_ended_25 rfl (lv_at hl 1 rfl) ?_
    refine h_iald (i := q) hx hb hI hm_6 (by omega) (by decide) dX10_ended_26 ?_
    refine n_eq (show _ = nI (sz q) from congrArg nI hmz) ?_
    refine lv_iconst (v := nI 1) hx hb dX10_ended_27 (by decide) ?_
    refine lv_isub hx hb dX10_ended_28 ?_
    refine n_eq (pk_sub (a := sz q) (b := 1) (by omega)) ?_
    refine k_Ri (va_runS (As := [.int (nI i), .int (nI 0), .int (nI ((sz q) - 1))]) (rest := [.ref (ad 60)]) ⟨hx, hb, hml, hown, hts⟩ (c_X10_in l G z ad M_1 (x := nI i) (a := nI 0) (b := nI ((sz q) - 1)) ) (va_cwS 3 hts (gS (lwg_of t_1135 rfl) (lwg_of t_1136 rfl) (lwg_of t_13 rfl) (lwg_of t_1137 rfl)) rfl rfl rfl (by decide +kernel) ⟨Nat.le_of_ble_eq_true rfl, Nat.le_of_ble_eq_true rfl⟩) hI.preS rfl rfl hl.1 rfl (lv_room (Nat.le_of_ble_eq_true rfl)) dX10_ended_29 ⟨Nat.le_of_ble_eq_true rfl, Nat.le_of_ble_eq_true rfl⟩) (fun _ h => h) (fun r_15 hp_16 => ?_)
    rw [hp_16]
    refine n_eq (show _ = nI 1 from by rw [inB_t (by omega) (by omega)]; rfl) ?_
    refine lv_if_eq (tgt := 44) hx hb dX10_ended_32 (by decide) (fun c_17 => ?_) (fun c_17 => ?_)
    · -- 32: nI 1 eq
      exact absurd c_17 (by decide)
    · -- 32: nI 1 ne
      refine lv_iload_n hx hb dX10_ended_35 rfl (lv_at hl 3 rfl) ?_
      refine lv_iconst (v := nI 0) hx hb dX10_ended_36 (by decide) ?_
      refine lv_iconst (v := nI 2) hx hb dX10_ended_37 (by decide) ?_
      refine k_Ri (va_runS (As := [.int (nI 2), .int (nI 0), .int (nI 2)]) (rest := [.ref (ad 60)]) ⟨hx, hb, hml, hown, hts⟩ (c_X10_in l G z ad M_1 (x := nI 2) (a := nI 0) (b := nI 2) ) (va_cwS 3 hts (gS (lwg_of t_1135 rfl) (lwg_of t_1136 rfl) (lwg_of t_13 rfl) (lwg_of t_1137 rfl)) rfl rfl rfl (by decide +kernel) ⟨Nat.le_of_ble_eq_true rfl, Nat.le_of_ble_eq_true rfl⟩) hI.preS rfl rfl hl.1 rfl (lv_room (Nat.le_of_ble_eq_true rfl)) dX10_ended_38 ⟨Nat.le_of_ble_eq_true rfl, Nat.le_of_ble_eq_true rfl⟩) (fun _ h => h) (fun r_18 hp_19 => ?_)
      rw [hp_19]
      refine n_eq (show _ = nI 1 from by rw [inB_t (t := 2) (by decide) (by decide)]; rfl) ?_
      refine lv_if_ne (tgt := 48) hx hb dX10_ended_41 (by decide) (fun c_20 => ?_) (fun c_20 => ?_)
      · -- 41: nI 1 ne
        refine lv_iconst (v := nI 0) hx hb dX10_ended_48 (by decide) ?_
        refine lv_iconst (v := nI 2) hx hb dX10_ended_49 (by decide) ?_
        refine k_Ri (va_runV (As := [.int (nI 0), .int (nI 2)]) (rest := []) ⟨hx, hb, hml, hown, hts⟩ (c_X10_throwsIf_0 l G z ad M_1 (th := 0) (ln := n) (on := on) (ao := ao) (vr := vr) (sn := sn) (tp := tp) (pt := pt) (zs := zs) (bg := bg) (fa := fa) (c0 := 2) hm_5) (cwV 2 hts (gV (lwg_of t_1141 rfl) (lwg_of t_1143 rfl) (lwg_of ts_23 rfl) (lwg_of t_13 rfl) (lwg_of t_1144 rfl)) rfl rfl rfl (by decide +kernel) ⟨Nat.le_of_ble_eq_true rfl, Nat.le_of_ble_eq_true rfl⟩) (hI.preV hm_5 rfl) rfl rfl hl.1 rfl (lv_room (Nat.le_of_ble_eq_true rfl)) dX10_ended_50 ⟨Nat.le_of_ble_eq_true rfl, Nat.le_of_ble_eq_true rfl⟩) (fun _ h => h) (fun r_21 hp_22 => ?_)
        rw [hp_22]
        refine lv_if_eq (tgt := 58) hx hb dX10_ended_53 (by decide) (fun c_23 => ?_) (fun c_23 => ?_)
        · -- 53: nI 0 eq
          refine lv_bipush (v := nI 6) hx hb dX10_ended_58 (by decide) ?_
          refine lv_iload_n hx hb dX10_ended_60 rfl (lv_at hl 1 rfl) ?_
          refine lv_imul hx hb dX10_ended_61 ?_
          refine n_eq (pk_mul 6 q) ?_
          refine lv_iload_n hx hb dX10_ended_62 rfl (lv_at hl 2 rfl) ?_
          refine lv_iadd hx hb dX10_ended_63 ?_
          refine n_eq (nI_add (6 * q) i) ?_
          refine lv_istore (lv' := [(4, .int (nI ((6 * q) + i))), (0, .ref (ad 60)), (1, .int (nI q)), (2, .int (nI i)), (3, .int (nI 2))]) hx hb dX10_ended_64 hl (by decide) rfl (fun ls hl => ?_)
          refine lv_iload_n hx hb dX10_ended_66 rfl (lv_at hl 4 rfl) ?_
          refine lv_if_ne (tgt := 80) hx hb dX10_ended_67 (by decide) (fun c_24 => ?_) (fun c_24 => ?_)
          · -- 67: nI 2 ne
            refine lv_iload_n hx hb dX10_ended_80 rfl (lv_at hl 4 rfl) ?_
            refine lv_iconst (v := nI 1) hx hb dX10_ended_81 (by decide) ?_
            refine lv_icmp_ne (tgt := 111) hx hb dX10_ended_82 (by decide) (fun c_25 => ?_) (fun c_25 => ?_)
            · -- 82: nI 2 ne
              refine lv_aload_n hx hb dX10_ended_111 rfl (lv_at hl 1 rfl) ?_
              refine h_get (C := RX10) (T := TX10) (N := 38) hx hb hts i_RX10 hown hI hm_5 rfl 10 (by decide) f_42 rfl rfl dX10_ended_112 ?_
              refine lv_iload hx hb dX10_ended_115 (lv_at hl 0 rfl) ?_
              refine h_iald (i := (6 * q) + i) hx hb hI hm_8 (by omega) (by decide) dX10_ended_117 ?_
              refine n_eq (show _ = nI (en q i) from congrArg nI hej) ?_
              refine lv_bipush (v := nI 40) hx hb dX10_ended_118 (by decide) ?_
              refine lv_icmp_ge (tgt := 127) hx hb dX10_ended_120 (by decide) (fun c_26 => ?_) (fun c_26 => ?_)
              · -- 120: nI (en q i) ge
                have c_26 : 40 ≤ en q i := (nI_leI (a := 40) (b := en q i) (by omega) (by omega)).mp (c_26)
                refine lv_aload_n hx hb dX10_ended_127 rfl (lv_at hl 1 rfl) ?_
                refine h_get (C := RX10) (T := TX10) (N := 38) hx hb hts i_RX10 hown hI hm_5 rfl 10 (by decide) f_42 rfl rfl dX10_ended_128 ?_
                refine lv_iload hx hb dX10_ended_131 (lv_at hl 0 rfl) ?_
                refine h_iald (i := (6 * q) + i) hx hb hI hm_8 (by omega) (by decide) dX10_ended_133 ?_
                refine n_eq (show _ = nI (en q i) from congrArg nI hej) ?_
                refine lv_bipush (v := nI 40) hx hb dX10_ended_134 (by decide) ?_
                refine lv_isub hx hb dX10_ended_136 ?_
                refine n_eq (pk_sub (a := en q i) (b := 40) (by omega)) ?_
                exact e_Ni hx hb hr rfl hlocks hI ⟨(ol_y (by assumption) (by omega)), hm_5, (fun j q0 => hF_9 j q0)⟩ dX10_ended_137
              · -- 120: nI (en q i) lt
                have c_26 : en q i < 40 := by have h := mt (nI_leI (a := 40) (b := en q i) (by omega) (by omega)).mpr c_26; omega
                refine lv_iconst (v := (-1)) hx hb dX10_ended_123 (by decide) ?_
                refine lv_goto (tgt := 137) hx hb dX10_ended_124 (by decide) ?_
                exact e_Ni hx hb hr rfl hlocks hI ⟨(ol_n (by assumption)), hm_5, (fun j q0 => hF_9 j q0)⟩ dX10_ended_137
            · -- 82: nI 2 eq
              exact absurd c_25 (by decide)
          · -- 67: nI 2 eq
            exact absurd c_24 (by decide)
        · -- 53: nI 0 ne
          exact absurd (by decide) c_23
      · -- 41: nI 1 eq
        exact absurd c_20 (by decide)

/-- X10_ended -/
abbrev rm_c_X10_ended_a : Room := { frames := 2, cells := 0, slots := 0, locals := 43 }
set_option maxHeartbeats 4000000 in
set_option maxRecDepth 100000 in
theorem c_X10_ended_a (l : Launch) (G : GG) (z : Nat) (ad : Nat → Nat) (M : Mem) {th : Nat} {on : Nat} {ao : Nat} {vr : Nat} {sn : Nat} {tp : Nat} {pt : Nat} {zs : Nat} {bg : Nat} {fa : Int32} {n : Nat} {x0 : Int32} {x1 : Int32} {x2 : Int32} (h60 : M 60 = some (cModel ad th n on ao vr sn tp pt zs bg fa)) (hbad : x0 < 0 ∨ ¬ x0 < nI n) (hn : n ≤ 120) : Met l yX10_ended wsX10_ended rm_c_X10_ended_a (Pr G z ad M [.ref (ad 60), .int x0, .int x1, .int x2]) (Ni G z ad (fun (r : Int32) (M' : Mem) => r = nI 0 ∧ M' 60 = some (cModel ad 1 n on ao vr sn tp pt zs bg fa) ∧ (∀ j : Nat, j ≠ 60 → M' j = M j))) 0 0 (fr z) := by
  refine Met.ofW (cc := cX10_ended) (maxL := 5) (ret := (some .int)) (by decide) rfl ?_
  intro p e s m args below meth c s₁ B hml hv
  obtain ⟨rfl, hv⟩ := hv
  have hI := Iv.entry hv
  have hx := B.exec
  have hb := B.bytes
  have hr := B.returns
  have hts := atoms_spec (ws := wsX10_ended) B.pre
  have hown : s.vm.findClass RX10 = some m.cls := findClass_of_methodNamed B.named
  have hlocks := B.notSynchronized
  have f_3 := hts _ (List.mem_cons_of_mem _ (lwg_of t_1013 rfl))
  have i_RX10 : ∀ w ∈ u_ws RX10 TX10 38, w ∈ wsX10_ended := fun w h => List.mem_cons_of_mem _ (iu_X10 w h)
  have hl := lv_entry ([.ref (ad 60), .int x0, .int x1, .int x2]) (n := 5) (Nat.le_of_ble_eq_true rfl)
  rw [lg_entry_eq]
  generalize (lg_sl ([.ref (ad 60), .int x0, .int x1, .int x2]) ++ List.replicate (5 - (lg_sl ([.ref (ad 60), .int x0, .int x1, .int x2])).length) Slot.unset).toArray = ls at hl ⊢
  have hl : lv_has ls 5 [(0, .ref (ad 60)), (1, .int x0), (2, .int x1), (3, .int x2)] := hl
  refine lv_aload_n hx hb dX10_ended_0 rfl (lv_at hl 0 rfl) ?_
  refine lv_iconst (v := nI 0) hx hb dX10_ended_1 (by decide) ?_
  refine h_put (C := RX10) (T := TX10) (N := 38) hx hb hts i_RX10 tyX10 tyX10_ok nmX10 hown hI h60 rfl 0 (by decide) f_3 rfl rfl rfl rfl (Nat.le_of_ble_eq_true rfl) dX10_ended_2 (fun M_1 H_2 locs_3 eM_4 hI => ?_)
  have hm_5 : M_1 60 = some (cModel ad 0 n on ao vr sn tp pt zs bg fa) := by rw [eM_4]; exact va_up_self _ _ _
  have hF_6 : ∀ j : Nat, j ≠ 60 → M_1 j = M j := fun j q0 => by rw [eM_4, va_up_ne _ _ q0]
  refine lv_aload_n hx hb dX10_ended_5 rfl (lv_at hl 0 rfl) ?_
  refine lv_aload_n hx hb dX10_ended_6 rfl (lv_at hl 0 rfl) ?_
  refine lv_iload_n hx hb dX10_ended_7 rfl (lv_at hl 1 rfl) ?_
  refine k_Ri (va_runV (As := [.int x0]) (rest := [.ref (ad 60)]) ⟨hx, hb, hml, hown, hts⟩ (c_X10_noLine_1 l G z ad M_1 (th := 0) (ln := n) (on := on) (ao := ao) (vr := vr) (sn := sn) (tp := tp) (pt := pt) (zs := zs) (bg := bg) (fa := fa) (x := x0) hm_5 hbad (by omega)) (cwV 1 hts (gV (lwg_of t_1157 rfl) (lwg_of t_1159 rfl) (lwg_of ts_24 rfl) (lwg_of t_13 rfl) (lwg_of t_1160 rfl)) rfl rfl rfl (by decide +kernel) ⟨Nat.le_of_ble_eq_true rfl, Nat.le_of_ble_eq_true rfl⟩) (hI.preV hm_5 rfl) rfl rfl hl.1 rfl (lv_room (Nat.le_of_ble_eq_true rfl)) dX10_ended_8 ⟨Nat.le_of_ble_eq_true rfl, Nat.le_of_ble_eq_true rfl⟩) (fun _ h => h) (fun r_7 hp_8 => ?_)
  rw [hp_8]
  refine lv_iconst (v := nI 1) hx hb dX10_ended_11 (by decide) ?_
  refine k_Ni (va_runV (As := [.int (nI 1), .int (nI 1)]) (rest := []) ⟨hx, hb, hml, hown, hts⟩ (c_X10_throwsIf_1 l G z ad M_1 (th := 0) (ln := n) (on := on) (ao := ao) (vr := vr) (sn := sn) (tp := tp) (pt := pt) (zs := zs) (bg := bg) (fa := fa) (c0 := 1) hm_5) (cwV 2 hts (gV (lwg_of t_1141 rfl) (lwg_of t_1143 rfl) (lwg_of ts_23 rfl) (lwg_of t_13 rfl) (lwg_of t_1144 rfl)) rfl rfl rfl (by decide +kernel) ⟨Nat.le_of_ble_eq_true rfl, Nat.le_of_ble_eq_true rfl⟩) (hI.preV hm_5 rfl) rfl rfl hl.1 rfl (lv_room (Nat.le_of_ble_eq_true rfl)) dX10_ended_12 ⟨Nat.le_of_ble_eq_true rfl, Nat.le_of_ble_eq_true rfl⟩) hI (fun r_9 M_11 H_12 locs_13 hp_10 hI => ?_)
  obtain ⟨hr_14, hm_15, hF_16⟩ := hp_10
  have hF_17 : ∀ j : Nat, j ≠ 60 → M_11 j = M j := fun j q0 => (hF_16 j q0).trans (hF_6 j q0)
  rw [hr_14]
  refine lv_if_ne (tgt := 56) hx hb dX10_ended_15 (by decide) (fun c_18 => ?_) (fun c_18 => ?_)
  · -- 15: nI 1 ne
    refine lv_iconst (v := nI 0) hx hb dX10_ended_56 (by decide) ?_
    exact e_Ni hx hb hr rfl hlocks hI ⟨rfl, hm_15, (fun j q0 => hF_17 j q0)⟩ dX10_ended_57
  · -- 15: nI 1 eq
    exact absurd c_18 (by decide)

/-- X10_ended -/
abbrev rm_c_X10_ended_b : Room := { frames := 2, cells := 0, slots := 0, locals := 43 }
set_option maxHeartbeats 4000000 in
set_option maxRecDepth 100000 in
theorem c_X10_ended_b (l : Launch) (G : GG) (z : Nat) (ad : Nat → Nat) (M : Mem) {th : Nat} {on : Nat} {ao : Nat} {vr : Nat} {sn : Nat} {tp : Nat} {pt : Nat} {zs : Nat} {bg : Nat} {fa : Int32} {n : Nat} {kd : Nat → Nat} {fm : Nat → Int32} {to : Nat → Int32} {sz : Nat → Nat} {rl : Nat → Nat → Nat} {en : Nat → Nat → Nat} {mk : Nat → Nat} {mf : Nat → Int32} {mu : Nat → Int32} {mz : Nat → Nat} {rr : Nat → Nat} {ee : Nat → Nat} {q : Nat} {x1 : Int32} {x2 : Int32} (h60 : M 60 = some (cModel ad th n on ao vr sn tp pt zs bg fa)) (h68 : M 68 = some (aI G 121 (nF mz))) (hw : LSw n kd sz rl en) (hmr : MRel n kd fm to sz rl en mk mf mu mz rr ee) (hq : q < n) (hbad : x1 < 0 ∨ ¬ x1 < nI (sz q)) : Met l yX10_ended wsX10_ended rm_c_X10_ended_b (Pr G z ad M [.ref (ad 60), .int (nI q), .int x1, .int x2]) (Ni G z ad (fun (r : Int32) (M' : Mem) => r = nI 0 ∧ M' 60 = some (cModel ad 2 n on ao vr sn tp pt zs bg fa) ∧ (∀ j : Nat, j ≠ 60 → M' j = M j))) 0 0 (fr z) := by
  refine Met.ofW (cc := cX10_ended) (maxL := 5) (ret := (some .int)) (by decide) rfl ?_
  intro p e s m args below meth c s₁ B hml hv
  obtain ⟨rfl, hv⟩ := hv
  have hI := Iv.entry hv
  have hx := B.exec
  have hb := B.bytes
  have hr := B.returns
  have hts := atoms_spec (ws := wsX10_ended) B.pre
  have hown : s.vm.findClass RX10 = some m.cls := findClass_of_methodNamed B.named
  have hlocks := B.notSynchronized
  have f_3 := hts _ (List.mem_cons_of_mem _ (lwg_of t_1013 rfl))
  have i_RX10 : ∀ w ∈ u_ws RX10 TX10 38, w ∈ wsX10_ended := fun w h => List.mem_cons_of_mem _ (iu_X10 w h)
  have f_36 := hts _ (List.mem_cons_of_mem _ (lwg_of t_1021 rfl))
  have hl := lv_entry ([.ref (ad 60), .int (nI q), .int x1, .int x2]) (n := 5) (Nat.le_of_ble_eq_true rfl)
  rw [lg_entry_eq]
  generalize (lg_sl ([.ref (ad 60), .int (nI q), .int x1, .int x2]) ++ List.replicate (5 - (lg_sl ([.ref (ad 60), .int (nI q), .int x1, .int x2])).length) Slot.unset).toArray = ls at hl ⊢
  have hl : lv_has ls 5 [(0, .ref (ad 60)), (1, .int (nI q)), (2, .int x1), (3, .int x2)] := hl
  have hw1 := hw.1
  obtain ⟨hk6, hs6, hje⟩ := hw.2 q hq
  obtain ⟨hmk, hmf, hmt, hmz, hmj⟩ := hmr q hq
  refine lv_aload_n hx hb dX10_ended_0 rfl (lv_at hl 0 rfl) ?_
  refine lv_iconst (v := nI 0) hx hb dX10_ended_1 (by decide) ?_
  refine h_put (C := RX10) (T := TX10) (N := 38) hx hb hts i_RX10 tyX10 tyX10_ok nmX10 hown hI h60 rfl 0 (by decide) f_3 rfl rfl rfl rfl (Nat.le_of_ble_eq_true rfl) dX10_ended_2 (fun M_1 H_2 locs_3 eM_4 hI => ?_)
  have hm_5 : M_1 60 = some (cModel ad 0 n on ao vr sn tp pt zs bg fa) := by rw [eM_4]; exact va_up_self _ _ _
  have hm_6 : M_1 68 = some (aI G 121 (nF mz)) := by rw [eM_4, va_up_ne _ _ (by decide)]; exact h68
  have hF_7 : ∀ j : Nat, j ≠ 60 → M_1 j = M j := fun j q0 => by rw [eM_4, va_up_ne _ _ q0]
  refine lv_aload_n hx hb dX10_ended_5 rfl (lv_at hl 0 rfl) ?_
  refine lv_aload_n hx hb dX10_ended_6 rfl (lv_at hl 0 rfl) ?_
  refine lv_iload_n hx hb dX10_ended_7 rfl (lv_at hl 1 rfl) ?_
  refine k_Ri (va_runV (As := [.int (nI q)]) (rest := [.ref (ad 60)]) ⟨hx, hb, hml, hown, hts⟩ (c_X10_noLine_0 l G z ad M_1 (th := 0) (ln := n) (on := on) (ao := ao) (vr := vr) (sn := sn) (tp := tp) (pt := pt) (zs := zs) (bg := bg) (fa := fa) (t := q) hm_5 (by omega) (by omega)) (cwV 1 hts (gV (lwg_of t_1157 rfl) (lwg_of t_1159 rfl) (lwg_of ts_24 rfl) (lwg_of t_13 rfl) (lwg_of t_1160 rfl)) rfl rfl rfl (by decide +kernel) ⟨Nat.le_of_ble_eq_true rfl, Nat.le_of_ble_eq_true rfl⟩) (hI.preV hm_5 rfl) rfl rfl hl.1 rfl (lv_room (Nat.le_of_ble_eq_true rfl)) dX10_ended_8 ⟨Nat.le_of_ble_eq_true rfl, Nat.le_of_ble_eq_true rfl⟩) (fun _ h => h) (fun r_8 hp_9 => ?_)
  rw [hp_9]
  refine lv_iconst (v := nI 1) hx hb dX10_ended_11 (by decide) ?_
  refine k_Ri (va_runV (As := [.int (nI 0), .int (nI 1)]) (rest := []) ⟨hx, hb, hml, hown, hts⟩ (c_X10_throwsIf_0 l G z ad M_1 (th := 0) (ln := n) (on := on) (ao := ao) (vr := vr) (sn := sn) (tp := tp) (pt := pt) (zs := zs) (bg := bg) (fa := fa) (c0 := 1) hm_5) (cwV 2 hts (gV (lwg_of t_1141 rfl) (lwg_of t_1143 rfl) (lwg_of ts_23 rfl) (lwg_of t_13 rfl) (lwg_of t_1144 rfl)) rfl rfl rfl (by decide +kernel) ⟨Nat.le_of_ble_eq_true rfl, Nat.le_of_ble_eq_true rfl⟩) (hI.preV hm_5 rfl) rfl rfl hl.1 rfl (lv_room (Nat.le_of_ble_eq_true rfl)) dX10_ended_12 ⟨Nat.le_of_ble_eq_true rfl, Nat.le_of_ble_eq_true rfl⟩) (fun _ h => h) (fun r_10 hp_11 => ?_)
  rw [hp_11]
  refine lv_if_ne (tgt := 56) hx hb dX10_ended_15 (by decide) (fun c_12 => ?_) (fun c_12 => ?_)
  · -- 15: nI 0 ne
    exact absurd (by decide) c_12
  · -- 15: nI 0 eq
    refine lv_aload_n hx hb dX10_ended_18 rfl (lv_at hl 0 rfl) ?_
    refine lv_iload_n hx hb dX10_ended_19 rfl (lv_at hl 2 rfl) ?_
    refine lv_iconst (v := nI 0) hx hb dX10_ended_20 (by decide) ?_
    refine lv_aload_n hx hb dX10_ended_21 rfl (lv_at hl 0 rfl) ?_
    refine h_get (C := RX10) (T := TX10) (N := 38) hx hb hts i_RX10 hown hI hm_5 rfl 8 (by decide) f_36 rfl rfl dX10_ended_22 ?_
    refine lv_iload_n hx hb dX10_ended_25 rfl (lv_at hl 1 rfl) ?_
    refine h_iald (i := q) hx hb hI hm_6 (by omega) (by decide) dX10_ended_26 ?_
    refine n_eq (show _ = nI (sz q) from congrArg nI hmz) ?_
    refine lv_iconst (v := nI 1) hx hb dX10_ended_27 (by decide) ?_
    refine lv_isub hx hb dX10_ended_28 ?_
    refine n_eq (show _ = nI (sz q) - nI 1 from rfl) ?_
    refine k_Ri (va_runS (As := [.int x1, .int (nI 0), .int (nI (sz q) - nI 1)]) (rest := [.ref (ad 60)]) ⟨hx, hb, hml, hown, hts⟩ (c_X10_in l G z ad M_1 (x := x1) (a := nI 0) (b := nI (sz q) - nI 1) ) (va_cwS 3 hts (gS (lwg_of t_1135 rfl) (lwg_of t_1136 rfl) (lwg_of t_13 rfl) (lwg_of t_1137 rfl)) rfl rfl rfl (by decide +kernel) ⟨Nat.le_of_ble_eq_true rfl, Nat.le_of_ble_eq_true rfl⟩) hI.preS rfl rfl hl.1 rfl (lv_room (Nat.le_of_ble_eq_true rfl)) dX10_ended_29 ⟨Nat.le_of_ble_eq_true rfl, Nat.le_of_ble_eq_true rfl⟩) (fun _ h => h) (fun r_13 hp_14 => ?_)
    rw [hp_14]
    refine n_eq (show _ = nI 0 from by rw [inL_f hbad (by omega)]; rfl) ?_
    refine lv_if_eq (tgt := 44) hx hb dX10_ended_32 (by decide) (fun c_15 => ?_) (fun c_15 => ?_)
    · -- 32: nI 0 eq
      refine lv_iconst (v := nI 1) hx hb dX10_ended_44 (by decide) ?_
      refine lv_goto (tgt := 49) hx hb dX10_ended_45 (by decide) ?_
      refine lv_iconst (v := nI 2) hx hb dX10_ended_49 (by decide) ?_
      refine k_Ni (va_runV (As := [.int (nI 1), .int (nI 2)]) (rest := []) ⟨hx, hb, hml, hown, hts⟩ (c_X10_throwsIf_1 l G z ad M_1 (th := 0) (ln := n) (on := on) (ao := ao) (vr := vr) (sn := sn) (tp := tp) (pt := pt) (zs := zs) (bg := bg) (fa := fa) (c0 := 2) hm_5) (cwV 2 hts (gV (lwg_of t_1141 rfl) (lwg_of t_1143 rfl) (lwg_of ts_23 rfl) (lwg_of t_13 rfl) (lwg_of t_1144 rfl)) rfl rfl rfl (by decide +kernel) ⟨Nat.le_of_ble_eq_true rfl, Nat.le_of_ble_eq_true rfl⟩) (hI.preV hm_5 rfl) rfl rfl hl.1 rfl (lv_room (Nat.le_of_ble_eq_true rfl)) dX10_ended_50 ⟨Nat.le_of_ble_eq_true rfl, Nat.le_of_ble_eq_true rfl⟩) hI (fun r_16 M_18 H_19 locs_20 hp_17 hI => ?_)
      obtain ⟨hr_21, hm_22, hF_23⟩ := hp_17
      have hm_24 : M_18 68 = some (aI G 121 (nF mz)) := by rw [hF_23 68 (by omega)]; exact hm_6
      have hF_25 : ∀ j : Nat, j ≠ 60 → M_18 j = M j := fun j q0 => (hF_23 j q0).trans (hF_7 j q0)
      rw [hr_21]
      refine lv_if_eq (tgt := 58) hx hb dX10_ended_53 (by decide) (fun c_26 => ?_) (fun c_26 => ?_)
      · -- 53: nI 1 eq
        exact absurd c_26 (by decide)
      · -- 53: nI 1 ne
        refine lv_iconst (v := nI 0) hx hb dX10_ended_56 (by decide) ?_
        exact e_Ni hx hb hr rfl hlocks hI ⟨rfl, hm_22, (fun j q0 => hF_25 j q0)⟩ dX10_ended_57
    · -- 32: nI 0 ne
      exact absurd (by decide) c_15

/-- X10_ended -/
abbrev rm_c_X10_ended_c : Room := { frames := 2, cells := 0, slots := 0, locals := 43 }
set_option maxHeartbeats 4000000 in
set_option maxRecDepth 100000 in
theorem c_X10_ended_c (l : Launch) (G : GG) (z : Nat) (ad : Nat → Nat) (M : Mem) {th : Nat} {on : Nat} {ao : Nat} {vr : Nat} {sn : Nat} {tp : Nat} {pt : Nat} {zs : Nat} {bg : Nat} {fa : Int32} {n : Nat} {kd : Nat → Nat} {fm : Nat → Int32} {to : Nat → Int32} {sz : Nat → Nat} {rl : Nat → Nat → Nat} {en : Nat → Nat → Nat} {mk : Nat → Nat} {mf : Nat → Int32} {mu : Nat → Int32} {mz : Nat → Nat} {rr : Nat → Nat} {ee : Nat → Nat} {q : Nat} {i : Nat} {x2 : Int32} (h60 : M 60 = some (cModel ad th n on ao vr sn tp pt zs bg fa)) (h68 : M 68 = some (aI G 121 (nF mz))) (hw : LSw n kd sz rl en) (hmr : MRel n kd fm to sz rl en mk mf mu mz rr ee) (hq : q < n) (hi : i < sz q) (hbad : x2 < 0 ∨ ¬ x2 < nI 3) : Met l yX10_ended wsX10_ended rm_c_X10_ended_c (Pr G z ad M [.ref (ad 60), .int (nI q), .int (nI i), .int x2]) (Ni G z ad (fun (r : Int32) (M' : Mem) => r = nI 0 ∧ M' 60 = some (cModel ad 2 n on ao vr sn tp pt zs bg fa) ∧ (∀ j : Nat, j ≠ 60 → M' j = M j))) 0 0 (fr z) := by
  refine Met.ofW (cc := cX10_ended) (maxL := 5) (ret := (some .int)) (by decide) rfl ?_
  intro p e s m args below meth c s₁ B hml hv
  obtain ⟨rfl, hv⟩ := hv
  have hI := Iv.entry hv
  have hx := B.exec
  have hb := B.bytes
  have hr := B.returns
  have hts := atoms_spec (ws := wsX10_ended) B.pre
  have hown : s.vm.findClass RX10 = some m.cls := findClass_of_methodNamed B.named
  have hlocks := B.notSynchronized
  have f_3 := hts _ (List.mem_cons_of_mem _ (lwg_of t_1013 rfl))
  have i_RX10 : ∀ w ∈ u_ws RX10 TX10 38, w ∈ wsX10_ended := fun w h => List.mem_cons_of_mem _ (iu_X10 w h)
  have f_36 := hts _ (List.mem_cons_of_mem _ (lwg_of t_1021 rfl))
  have hl := lv_entry ([.ref (ad 60), .int (nI q), .int (nI i), .int x2]) (n := 5) (Nat.le_of_ble_eq_true rfl)
  rw [lg_entry_eq]
  generalize (lg_sl ([.ref (ad 60), .int (nI q), .int (nI i), .int x2]) ++ List.replicate (5 - (lg_sl ([.ref (ad 60), .int (nI q), .int (nI i), .int x2])).length) Slot.unset).toArray = ls at hl ⊢
  have hl : lv_has ls 5 [(0, .ref (ad 60)), (1, .int (nI q)), (2, .int (nI i)), (3, .int x2)] := hl
  have hw1 := hw.1
  obtain ⟨hk6, hs6, hje⟩ := hw.2 q hq
  obtain ⟨hmk, hmf, hmt, hmz, hmj⟩ := hmr q hq
  refine lv_aload_n hx hb dX10_ended_0 rfl (lv_at hl 0 rfl) ?_
  refine lv_iconst (v := nI 0) hx hb dX10_ended_1 (by decide) ?_
  refine h_put (C := RX10) (T := TX10) (N := 38) hx hb hts i_RX10 tyX10 tyX10_ok nmX10 hown hI h60 rfl 0 (by decide) f_3 rfl rfl rfl rfl (Nat.le_of_ble_eq_true rfl) dX10_ended_2 (fun M_1 H_2 locs_3 eM_4 hI => ?_)
  have hm_5 : M_1 60 = some (cModel ad 0 n on ao vr sn tp pt zs bg fa) := by rw [eM_4]; exact va_up_self _ _ _
  have hm_6 : M_1 68 = some (aI G 121 (nF mz)) := by rw [eM_4, va_up_ne _ _ (by decide)]; exact h68
  have hF_7 : ∀ j : Nat, j ≠ 60 → M_1 j = M j := fun j q0 => by rw [eM_4, va_up_ne _ _ q0]
  refine lv_aload_n hx hb dX10_ended_5 rfl (lv_at hl 0 rfl) ?_
  refine lv_aload_n hx hb dX10_ended_6 rfl (lv_at hl 0 rfl) ?_
  refine lv_iload_n hx hb dX10_ended_7 rfl (lv_at hl 1 rfl) ?_
  refine k_Ri (va_runV (As := [.int (nI q)]) (rest := [.ref (ad 60)]) ⟨hx, hb, hml, hown, hts⟩ (c_X10_noLine_0 l G z ad M_1 (th := 0) (ln := n) (on := on) (ao := ao) (vr := vr) (sn := sn) (tp := tp) (pt := pt) (zs := zs) (bg := bg) (fa := fa) (t := q) hm_5 (by omega) (by omega)) (cwV 1 hts (gV (lwg_of t_1157 rfl) (lwg_of t_1159 rfl) (lwg_of ts_24 rfl) (lwg_of t_13 rfl) (lwg_of t_1160 rfl)) rfl rfl rfl (by decide +kernel) ⟨Nat.le_of_ble_eq_true rfl, Nat.le_of_ble_eq_true rfl⟩) (hI.preV hm_5 rfl) rfl rfl hl.1 rfl (lv_room (Nat.le_of_ble_eq_true rfl)) dX10_ended_8 ⟨Nat.le_of_ble_eq_true rfl, Nat.le_of_ble_eq_true rfl⟩) (fun _ h => h) (fun r_8 hp_9 => ?_)
  rw [hp_9]
  refine lv_iconst (v := nI 1) hx hb dX10_ended_11 (by decide) ?_
  refine k_Ri (va_runV (As := [.int (nI 0), .int (nI 1)]) (rest := []) ⟨hx, hb, hml, hown, hts⟩ (c_X10_throwsIf_0 l G z ad M_1 (th := 0) (ln := n) (on := on) (ao := ao) (vr := vr) (sn := sn) (tp := tp) (pt := pt) (zs := zs) (bg := bg) (fa := fa) (c0 := 1) hm_5) (cwV 2 hts (gV (lwg_of t_1141 rfl) (lwg_of t_1143 rfl) (lwg_of ts_23 rfl) (lwg_of t_13 rfl) (lwg_of t_1144 rfl)) rfl rfl rfl (by decide +kernel) ⟨Nat.le_of_ble_eq_true rfl, Nat.le_of_ble_eq_true rfl⟩) (hI.preV hm_5 rfl) rfl rfl hl.1 rfl (lv_room (Nat.le_of_ble_eq_true rfl)) dX10_ended_12 ⟨Nat.le_of_ble_eq_true rfl, Nat.le_of_ble_eq_true rfl⟩) (fun _ h => h) (fun r_10 hp_11 => ?_)
  rw [hp_11]
  refine lv_if_ne (tgt := 56) hx hb dX10_ended_15 (by decide) (fun c_12 => ?_) (fun c_12 => ?_)
  · -- 15: nI 0 ne
    exact absurd (by decide) c_12
  · -- 15: nI 0 eq
    refine lv_aload_n hx hb dX10_ended_18 rfl (lv_at hl 0 rfl) ?_
    refine lv_iload_n hx hb dX10_ended_19 rfl (lv_at hl 2 rfl) ?_
    refine lv_iconst (v := nI 0) hx hb dX10_ended_20 (by decide) ?_
    refine lv_aload_n hx hb dX10_ended_21 rfl (lv_at hl 0 rfl) ?_
    refine h_get (C := RX10) (T := TX10) (N := 38) hx hb hts i_RX10 hown hI hm_5 rfl 8 (by decide) f_36 rfl rfl dX10_ended_22 ?_
    refine lv_iload_n hx hb dX10_ended_25 rfl (lv_at hl 1 rfl) ?_
    refine h_iald (i := q) hx hb hI hm_6 (by omega) (by decide) dX10_ended_26 ?_
    refine n_eq (show _ = nI (sz q) from congrArg nI hmz) ?_
    refine lv_iconst (v := nI 1) hx hb dX10_ended_27 (by decide) ?_
    refine lv_isub hx hb dX10_ended_28 ?_
    refine n_eq (pk_sub (a := sz q) (b := 1) (by omega)) ?_
    refine k_Ri (va_runS (As := [.int (nI i), .int (nI 0), .int (nI ((sz q) - 1))]) (rest := [.ref (ad 60)]) ⟨hx, hb, hml, hown, hts⟩ (c_X10_in l G z ad M_1 (x := nI i) (a := nI 0) (b := nI ((sz q) - 1)) ) (va_cwS 3 hts (gS (lwg_of t_1135 rfl) (lwg_of t_1136 rfl) (lwg_of t_13 rfl) (lwg_of t_1137 rfl)) rfl rfl rfl (by decide +kernel) ⟨Nat.le_of_ble_eq_true rfl, Nat.le_of_ble_eq_true rfl⟩) hI.preS rfl rfl hl.1 rfl (lv_room (Nat.le_of_ble_eq_true rfl)) dX10_ended_29 ⟨Nat.le_of_ble_eq_true rfl, Nat.le_of_ble_eq_true rfl⟩) (fun _ h => h) (fun r_13 hp_14 => ?_)
    rw [hp_14]
    refine n_eq (show _ = nI 1 from by rw [inB_t (by omega) (by omega)]; rfl) ?_
    refine lv_if_eq (tgt := 44) hx hb dX10_ended_32 (by decide) (fun c_15 => ?_) (fun c_15 => ?_)
    · -- 32: nI 1 eq
      exact absurd c_15 (by decide)
    · -- 32: nI 1 ne
      refine lv_iload_n hx hb dX10_ended_35 rfl (lv_at hl 3 rfl) ?_
      refine lv_iconst (v := nI 0) hx hb dX10_ended_36 (by decide) ?_
      refine lv_iconst (v := nI 2) hx hb dX10_ended_37 (by decide) ?_
      refine k_Ri (va_runS (As := [.int x2, .int (nI 0), .int (nI 2)]) (rest := [.ref (ad 60)]) ⟨hx, hb, hml, hown, hts⟩ (c_X10_in l G z ad M_1 (x := x2) (a := nI 0) (b := nI 2) ) (va_cwS 3 hts (gS (lwg_of t_1135 rfl) (lwg_of t_1136 rfl) (lwg_of t_13 rfl) (lwg_of t_1137 rfl)) rfl rfl rfl (by decide +kernel) ⟨Nat.le_of_ble_eq_true rfl, Nat.le_of_ble_eq_true rfl⟩) hI.preS rfl rfl hl.1 rfl (lv_room (Nat.le_of_ble_eq_true rfl)) dX10_ended_38 ⟨Nat.le_of_ble_eq_true rfl, Nat.le_of_ble_eq_true rfl⟩) (fun _ h => h) (fun r_16 hp_17 => ?_)
      rw [hp_17]
      refine n_eq (show _ = nI 0 from by rw [inB_f (k := 2) hbad (by decide)]; rfl) ?_
      refine lv_if_ne (tgt := 48) hx hb dX10_ended_41 (by decide) (fun c_18 => ?_) (fun c_18 => ?_)
      · -- 41: nI 0 ne
        exact absurd (by decide) c_18
      · -- 41: nI 0 eq
        refine lv_iconst (v := nI 1) hx hb dX10_ended_44 (by decide) ?_
        refine lv_goto (tgt := 49) hx hb dX10_ended_45 (by decide) ?_
        refine lv_iconst (v := nI 2) hx hb dX10_ended_49 (by decide) ?_
        refine k_Ni (va_runV (As := [.int (nI 1), .int (nI 2)]) (rest := []) ⟨hx, hb, hml, hown, hts⟩ (c_X10_throwsIf_1 l G z ad M_1 (th := 0) (ln := n) (on := on) (ao := ao) (vr := vr) (sn := sn) (tp := tp) (pt := pt) (zs := zs) (bg := bg) (fa := fa) (c0 := 2) hm_5) (cwV 2 hts (gV (lwg_of t_1141 rfl) (lwg_of t_1143 rfl) (lwg_of ts_23 rfl) (lwg_of t_13 rfl) (lwg_of t_1144 rfl)) rfl rfl rfl (by decide +kernel) ⟨Nat.le_of_ble_eq_true rfl, Nat.le_of_ble_eq_true rfl⟩) (hI.preV hm_5 rfl) rfl rfl hl.1 rfl (lv_room (Nat.le_of_ble_eq_true rfl)) dX10_ended_50 ⟨Nat.le_of_ble_eq_true rfl, Nat.le_of_ble_eq_true rfl⟩) hI (fun r_19 M_21 H_22 locs_23 hp_20 hI => ?_)
        obtain ⟨hr_24, hm_25, hF_26⟩ := hp_20
        have hm_27 : M_21 68 = some (aI G 121 (nF mz)) := by rw [hF_26 68 (by omega)]; exact hm_6
        have hF_28 : ∀ j : Nat, j ≠ 60 → M_21 j = M j := fun j q0 => (hF_26 j q0).trans (hF_7 j q0)
        rw [hr_24]
        refine lv_if_eq (tgt := 58) hx hb dX10_ended_53 (by decide) (fun c_29 => ?_) (fun c_29 => ?_)
        · -- 53: nI 1 eq
          exact absurd c_29 (by decide)
        · -- 53: nI 1 ne
          refine lv_iconst (v := nI 0) hx hb dX10_ended_56 (by decide) ?_
          exact e_Ni hx hb hr rfl hlocks hI ⟨rfl, hm_25, (fun j q0 => hF_28 j q0)⟩ dX10_ended_57
