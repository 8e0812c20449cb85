theorem crw_d {n : Nat} {kd : Nat → Nat} {fm to : Nat → Int32} {sz : Nat → Nat} {rl en : Nat → Nat → Nat} {lst al : Nat → Nat} {y f g j : Nat} {r0 e0 : Nat → Nat} (hg : g ≤ 1000) (hfg : f ≤ g) (hno : ∀ d, f ≤ d → d < g + 1 → cntB (wth kd fm to sz rl en lst (lst (e0 j)) y (r0 j) (nI d)) n < al (y * 6 + r0 j)) : ¬ crw1 n kd fm to sz rl en lst al y (nI f) (nI g) r0 e0 j := by
  rintro ⟨_, _, d, h1, h2, h3⟩
  obtain ⟨k, hk, rfl⟩ := nI_of (x := d) (fun h => by
    rw [Int32.lt_iff_toInt_lt, show (0 : Int32).toInt = 0 from by decide] at h
    rw [Int32.le_iff_toInt_le, nI_toInt (by omega)] at h1
    omega)
  have a := (nI_leI (by omega) (by omega)).mp h1
  have b := (nI_leI (by omega) (by omega)).mp h2
  have := hno k a (by omega)
  omega

/-- X10_refused -/
abbrev rm_c_X10_refused : Room := { frames := 3, cells := 0, slots := 0, locals := 70 }
set_option maxHeartbeats 4000000 in
set_option maxRecDepth 100000 in
theorem c_X10_refused (l : Launch) (G : GG) (z : Nat) (ad : Nat → Nat) (M : Mem) {th : Nat} {on : Nat} {ao : Nat} {vr : Nat} {sn : Nat} {tp : Nat} {pt : Nat} {zs : Nat} {bg : Nat} {fa : Int32} {n : Nat} {kd : Nat → Nat} {fm : Nat → Int32} {to : Nat → Int32} {sz : Nat → Nat} {rl : Nat → Nat → Nat} {en : Nat → Nat → Nat} {mk : Nat → Nat} {mf : Nat → Int32} {mu : Nat → Int32} {mz : Nat → Nat} {rr : Nat → Nat} {ee : Nat → Nat} {le : Nat → Nat} {mo : Nat → Nat} {al : Nat → Nat} {lst : Nat → Nat} {s0 : Nat} {r0 : Nat → Nat} {e0 : Nat → Nat} {y : Nat} {f : Nat} {g : Nat} (h60 : M 60 = some (cModel ad th n on ao vr sn tp pt zs bg fa)) (h61 : M 61 = some (aI G 36 (nF le))) (h62 : M 62 = some (aI G 36 (nF mo))) (h63 : M 63 = some (aI G 36 (nF al))) (h65 : M 65 = some (aI G 120 (nF mk))) (h66 : M 66 = some (aI G 120 mf)) (h67 : M 67 = some (aI G 120 mu)) (h68 : M 68 = some (aI G 121 (nF mz))) (h69 : M 69 = some (aI G 726 (nF rr))) (h70 : M 70 = some (aI G 726 (nF ee))) (h71 : M 71 = some (aI G 40 (nF lst))) (hw : LSw n kd sz rl en) (hmr : MRel n kd fm to sz rl en mk mf mu mz rr ee) (hs0 : s0 ≤ 6) (hr0 : ∀ j, j < s0 → r0 j < 6) (he0 : ∀ j, j < s0 → e0 j < 40 + n) (hmz0 : mz 120 = s0) (hdr : ∀ j, j < s0 → rr (720 + j) = r0 j ∧ ee (720 + j) = e0 j) (hlst : ∀ u, u < 40 → lst u < 40) (hy : y < 6) (hfg : f ≤ g ∧ g ≤ 1000) (hle : ∀ j, j < 36 → le j < 100) (hmo : ∀ j, j < 36 → mo j < 100) (hal : ∀ j, j < 36 → al j ≤ 100) : Met l yX10_refused wsX10_refused rm_c_X10_refused (Pr G z ad M [.ref (ad 60), .int (nI y), .int (nI f), .int (nI g)]) (vp_Si (fun r : Int32 => (r = nI 1 ∧ ¬ alw le mo r0 s0 y 6 ∨ r = nI 2 ∧ alw le mo r0 s0 y 6 ∧ ¬ brs fm to e0 (nI f) (nI g) s0 ∨ r = nI 3 ∧ alw le mo r0 s0 y 6 ∧ brs fm to e0 (nI f) (nI g) s0 ∧ crw n kd fm to sz rl en lst al y (nI f) (nI g) r0 e0 s0 ∨ r = nI 0 ∧ alw le mo r0 s0 y 6 ∧ brs fm to e0 (nI f) (nI g) s0 ∧ ¬ crw n kd fm to sz rl en lst al y (nI f) (nI g) r0 e0 s0))) 0 0 (fun _ => False) := by
  refine Met.ofW (cc := cX10_refused) (maxL := 8) (ret := (some .int)) (by decide) rfl ?_
  intro p e s m args below meth c s₁ B hml hv
  obtain ⟨rfl, hv⟩ := hv
  have hI := Iv.entry hv
  have hx := B.exec
  have hb := B.bytes
  have hr := B.returns
  have hts := atoms_spec (ws := wsX10_refused) B.pre
  have hown : s.vm.findClass RX10 = some m.cls := findClass_of_methodNamed B.named
  have hlocks := B.notSynchronized
  have i_RX10 : ∀ w ∈ u_ws RX10 TX10 38, w ∈ wsX10_refused := fun w h => List.mem_cons_of_mem _ (iu_X10 w h)
  have f_36 := hts _ (List.mem_cons_of_mem _ (lwg_of t_1021 rfl))
  have f_20 := hts _ (List.mem_cons_of_mem _ (lwg_of t_1016 rfl))
  have f_39 := hts _ (List.mem_cons_of_mem _ (lwg_of t_1022 rfl))
  have f_42 := hts _ (List.mem_cons_of_mem _ (lwg_of t_1023 rfl))
  have f_30 := hts _ (List.mem_cons_of_mem _ (lwg_of t_1019 rfl))
  have f_33 := hts _ (List.mem_cons_of_mem _ (lwg_of t_1020 rfl))
  have f_13 := hts _ (List.mem_cons_of_mem _ (lwg_of t_1014 rfl))
  have f_17 := hts _ (List.mem_cons_of_mem _ (lwg_of t_1015 rfl))
  have hl := lv_entry ([.ref (ad 60), .int (nI y), .int (nI f), .int (nI g)]) (n := 8) (Nat.le_of_ble_eq_true rfl)
  rw [lg_entry_eq]
  generalize (lg_sl ([.ref (ad 60), .int (nI y), .int (nI f), .int (nI g)]) ++ List.replicate (8 - (lg_sl ([.ref (ad 60), .int (nI y), .int (nI f), .int (nI g)])).length) Slot.unset).toArray = ls at hl ⊢
  have hl : lv_has ls 8 [(0, .ref (ad 60)), (1, .int (nI y)), (2, .int (nI f)), (3, .int (nI g))] := hl
  refine w_q (fun Q hQ => ?_)
  have hw1 := hw.1
  refine lv_sipush (v := nI 720) hx hb dX10_refused_0 (by decide) ?_
  refine lv_istore (lv' := [(4, .int (nI 720)), (0, .ref (ad 60)), (1, .int (nI y)), (2, .int (nI f)), (3, .int (nI g))]) hx hb dX10_refused_3 hl (by decide) rfl (fun ls hl => ?_)
  refine lv_iconst (v := nI 0) hx hb dX10_refused_5 (by decide) ?_
  refine lv_istore (lv' := [(5, .int (nI 0)), (4, .int (nI 720)), (0, .ref (ad 60)), (1, .int (nI y)), (2, .int (nI f)), (3, .int (nI g))]) hx hb dX10_refused_6 hl (by decide) rfl (fun ls hl => ?_)
  have lp8_1 : ∀ (fuel : Nat) (i : Nat) (ls : Array Slot), (6 - i) < fuel → (i ≤ 6) → (alw le mo r0 s0 y i) → lv_has ls 8 [(0, .ref (ad 60)), (1, .int (nI y)), (2, .int (nI f)), (3, .int (nI g)), (4, .int (nI 720)), (5, .int (nI i))] → W p l e (headSpec wsX10_refused rm_c_X10_refused).room s m ([.ref (ad 60), .int (nI y), .int (nI f), .int (nI g)] : List Value).toArray below meth c s.heap [] 0 0 Q (F0 m 8 ls []) := by
    intro fuel
    induction fuel with
    | zero => intro i ls hfu hi ha hl; exact absurd hfu (Nat.not_lt_zero _)
    | succ fuel ih_2 =>
      intro i ls hfu hi ha hl
      refine lv_iload hx hb dX10_refused_8 (lv_at hl 5 rfl) ?_
      refine lv_bipush (v := nI 6) hx hb dX10_refused_10 (by decide) ?_
      refine lv_icmp_ge (tgt := 105) hx hb dX10_refused_12 (by decide) (fun c_3 => ?_) (fun c_3 => ?_)
      · -- 12: nI i ge
        have c_3 : 6 ≤ i := (nI_leI (a := 6) (b := i) (by omega) (by omega)).mp (c_3)
        have ha6 : alw le mo r0 s0 y 6 := by rw [show 6 = i by omega]; exact ha
        refine lv_iload hx hb dX10_refused_105 (lv_at hl 4 rfl) ?_
        refine lv_istore (lv' := [(5, .int (nI 720)), (0, .ref (ad 60)), (1, .int (nI y)), (2, .int (nI f)), (3, .int (nI g)), (4, .int (nI 720))]) hx hb dX10_refused_107 hl (by decide) rfl (fun ls hl => ?_)
        have lp109_4 : ∀ (fuel : Nat) (j2 : Nat) (ls : Array Slot), (s0 - j2) < fuel → (j2 ≤ s0) → (brs fm to e0 (nI f) (nI g) j2) → lv_has ls 8 [(0, .ref (ad 60)), (1, .int (nI y)), (2, .int (nI f)), (3, .int (nI g)), (4, .int (nI 720)), (5, .int (nI (720 + j2)))] → W p l e (headSpec wsX10_refused rm_c_X10_refused).room s m ([.ref (ad 60), .int (nI y), .int (nI f), .int (nI g)] : List Value).toArray below meth c s.heap [] 0 0 Q (F0 m 109 ls []) := by
          intro fuel
          induction fuel with
          | zero => intro j2 ls hfu hj2 hbr hl; exact absurd hfu (Nat.not_lt_zero _)
          | succ fuel ih_5 =>
            intro j2 ls hfu hj2 hbr hl
            refine lv_iload hx hb dX10_refused_109 (lv_at hl 5 rfl) ?_
            refine lv_iload hx hb dX10_refused_111 (lv_at hl 4 rfl) ?_
            refine lv_aload_n hx hb dX10_refused_113 rfl (lv_at hl 0 rfl) ?_
            refine h_get (C := RX10) (T := TX10) (N := 38) hx hb hts i_RX10 hown hI h60 rfl 8 (by decide) f_36 rfl rfl dX10_refused_114 ?_
            refine lv_bipush (v := nI 120) hx hb dX10_refused_117 (by decide) ?_
            refine h_iald (i := 120) hx hb hI h68 (by omega) (by decide) dX10_refused_119 ?_
            refine n_eq (show _ = nI s0 from congrArg nI hmz0) ?_
            refine lv_iadd hx hb dX10_refused_120 ?_
            refine n_eq (nI_add 720 s0) ?_
            refine lv_icmp_ge (tgt := 182) hx hb dX10_refused_121 (by decide) (fun c_6 => ?_) (fun c_6 => ?_)
            · -- 121: nI (720 + j2) ge
              have c_6 : 720 + s0 ≤ 720 + j2 := (nI_leI (a := 720 + s0) (b := 720 + j2) (by omega) (by omega)).mp (c_6)
              have hb6 : brs fm to e0 (nI f) (nI g) s0 := by rw [show s0 = j2 by omega]; exact hbr
              refine lv_iload hx hb dX10_refused_182 (lv_at hl 4 rfl) ?_
              refine lv_istore (lv' := [(5, .int (nI 720)), (0, .ref (ad 60)), (1, .int (nI y)), (2, .int (nI f)), (3, .int (nI g)), (4, .int (nI 720))]) hx hb dX10_refused_184 hl (by decide) rfl (fun ls hl => ?_)
              have lp186_7 : ∀ (fuel : Nat) (j3 : Nat) (ls : Array Slot), (s0 - j3) < fuel → (j3 ≤ s0) → (¬ crw n kd fm to sz rl en lst al y (nI f) (nI g) r0 e0 j3) → lv_has ls 8 [(0, .ref (ad 60)), (1, .int (nI y)), (2, .int (nI f)), (3, .int (nI g)), (4, .int (nI 720)), (5, .int (nI (720 + j3)))] → W p l e (headSpec wsX10_refused rm_c_X10_refused).room s m ([.ref (ad 60), .int (nI y), .int (nI f), .int (nI g)] : List Value).toArray below meth c s.heap [] 0 0 Q (F0 m 186 ls []) := by
                intro fuel
                induction fuel with
                | zero => intro j3 ls hfu hj3 hcr hl; exact absurd hfu (Nat.not_lt_zero _)
                | succ fuel ih_8 =>
                  intro j3 ls hfu hj3 hcr hl
                  refine lv_iload hx hb dX10_refused_186 (lv_at hl 5 rfl) ?_
                  refine lv_iload hx hb dX10_refused_188 (lv_at hl 4 rfl) ?_
                  refine lv_aload_n hx hb dX10_refused_190 rfl (lv_at hl 0 rfl) ?_
                  refine h_get (C := RX10) (T := TX10) (N := 38) hx hb hts i_RX10 hown hI h60 rfl 8 (by decide) f_36 rfl rfl dX10_refused_191 ?_
                  refine lv_bipush (v := nI 120) hx hb dX10_refused_194 (by decide) ?_
                  refine h_iald (i := 120) hx hb hI h68 (by omega) (by decide) dX10_refused_196 ?_
                  refine n_eq (show _ = nI s0 from congrArg nI hmz0) ?_
                  refine lv_iadd hx hb dX10_refused_197 ?_
                  refine n_eq (nI_add 720 s0) ?_
                  refine lv_icmp_ge (tgt := 289) hx hb dX10_refused_198 (by decide) (fun c_9 => ?_) (fun c_9 => ?_)
                  · -- 198: nI (720 + j3) ge
                    have c_9 : 720 + s0 ≤ 720 + j3 := (nI_leI (a := 720 + s0) (b := 720 + j3) (by omega) (by omega)).mp (c_9)
                    refine lv_iconst (v := nI 0) hx hb dX10_refused_289 (by decide) ?_
                    subst hQ
                    exact e_Ri hx hb hr rfl hlocks (Or.inr (Or.inr (Or.inr ⟨rfl, ha6, hb6, by rw [show s0 = j3 by omega]; exact hcr⟩))) dX10_refused_290
                  · -- 198: nI (720 + j3) lt
                    have c_9 : 720 + j3 < 720 + s0 := by have h := mt (nI_leI (a := 720 + s0) (b := 720 + j3) (by omega) (by omega)).mpr c_9; omega
                    have hr9 := hr0 j3 (by omega)
                    have he9 := he0 j3 (by omega)
                    refine lv_aload_n hx hb dX10_refused_201 rfl (lv_at hl 0 rfl) ?_
                    refine h_get (C := RX10) (T := TX10) (N := 38) hx hb hts i_RX10 hown hI h60 rfl 3 (by decide) f_20 rfl rfl dX10_refused_202 ?_
                    refine lv_bipush (v := nI 6) hx hb dX10_refused_205 (by decide) ?_
                    refine lv_iload_n hx hb dX10_refused_207 rfl (lv_at hl 1 rfl) ?_
                    refine lv_imul hx hb dX10_refused_208 ?_
                    refine n_eq (pk_mul 6 y) ?_
                    refine lv_aload_n hx hb dX10_refused_209 rfl (lv_at hl 0 rfl) ?_
                    refine h_get (C := RX10) (T := TX10) (N := 38) hx hb hts i_RX10 hown hI h60 rfl 9 (by decide) f_39 rfl rfl dX10_refused_210 ?_
                    refine lv_iload hx hb dX10_refused_213 (lv_at hl 5 rfl) ?_
                    refine h_iald (i := 720 + j3) hx hb hI h69 (by omega) (by decide) dX10_refused_215 ?_
                    refine n_eq (show _ = nI (r0 j3) from congrArg nI (hdr j3 (by omega)).1) ?_
                    refine lv_iadd hx hb dX10_refused_216 ?_
                    refine n_eq (nI_add (6 * y) (r0 j3)) ?_
                    refine h_iald (i := (6 * y) + (r0 j3)) hx hb hI h63 (by omega) (by decide) dX10_refused_217 ?_
                    refine n_eq (show _ = nI (al (y * 6 + r0 j3)) from congrArg (fun k9 => nI (al k9)) (show 6 * y + r0 j3 = y * 6 + r0 j3 by omega)) ?_
                    refine lv_istore (lv' := [(6, .int (nI (al (y * 6 + r0 j3)))), (0, .ref (ad 60)), (1, .int (nI y)), (2, .int (nI f)), (3, .int (nI g)), (4, .int (nI 720)), (5, .int (nI (720 + j3)))]) hx hb dX10_refused_218 hl (by decide) rfl (fun ls hl => ?_)
                    have ha9 := hal (y * 6 + r0 j3) (by omega)
                    refine lv_aload_n hx hb dX10_refused_220 rfl (lv_at hl 1 rfl) ?_
                    refine h_get (C := RX10) (T := TX10) (N := 38) hx hb hts i_RX10 hown hI h60 rfl 10 (by decide) f_42 rfl rfl dX10_refused_221 ?_
                    refine lv_iload hx hb dX10_refused_224 (lv_at hl 6 rfl) ?_
                    refine h_iald (i := 720 + j3) hx hb hI h70 (by omega) (by decide) dX10_refused_226 ?_
                    refine n_eq (show _ = nI (e0 j3) from congrArg nI (hdr j3 (by omega)).2) ?_
                    refine lv_bipush (v := nI 40) hx hb dX10_refused_227 (by decide) ?_
                    refine lv_icmp_ge (tgt := 283) hx hb dX10_refused_229 (by decide) (fun c_10 => ?_) (fun c_10 => ?_)
                    · -- 229: nI (e0 j3) ge
                      have c_10 : 40 ≤ e0 j3 := (nI_leI (a := 40) (b := e0 j3) (by omega) (by omega)).mp (c_10)
                      refine lv_iinc (v := nI (720 + j3 + 1)) (lv' := [(5, .int (nI (720 + j3 + 1))), (6, .int (nI (al (y * 6 + r0 j3)))), (0, .ref (ad 60)), (1, .int (nI y)), (2, .int (nI f)), (3, .int (nI g)), (4, .int (nI 720))]) hx hb dX10_refused_283 hl (k := 6) rfl (nI_add (720 + j3) 1) (by decide) rfl (fun ls hl => ?_)
                      refine lv_goto (tgt := 186) hx hb dX10_refused_286 (by decide) ?_
                      exact ih_8 (j3 + 1) ls (by omega) (by omega) (crw_s hcr (fun h => absurd h.1 (by omega))) (lv_sub hl [2, 3, 4, 5, 6, 0] rfl)
                    · -- 229: nI (e0 j3) lt
                      have c_10 : e0 j3 < 40 := by have h := mt (nI_leI (a := 40) (b := e0 j3) (by omega) (by omega)).mpr c_10; omega
                      refine lv_iload hx hb dX10_refused_232 (lv_at hl 0 rfl) ?_
                      refine lv_if_ne (tgt := 240) hx hb dX10_refused_234 (by decide) (fun c_11 => ?_) (fun c_11 => ?_)
                      · -- 234: nI (al (y * 6 + r0 j3)) ne
                        have c_11 : al (y * 6 + r0 j3) ≠ 0 := by have h := mt (nI_eq (a := al (y * 6 + r0 j3)) (b := 0) (by omega) (by omega)).mpr c_11; omega
                        refine lv_iload_n hx hb dX10_refused_240 rfl (lv_at hl 3 rfl) ?_
                        refine lv_istore (lv' := [(7, .int (nI f)), (6, .int (nI (al (y * 6 + r0 j3)))), (0, .ref (ad 60)), (1, .int (nI y)), (2, .int (nI f)), (3, .int (nI g)), (4, .int (nI 720)), (5, .int (nI (720 + j3)))]) hx hb dX10_refused_241 hl (by decide) rfl (fun ls hl => ?_)
                        have lp243_12 : ∀ (fuel : Nat) (d : Nat) (ls : Array Slot), (g + 1 - d) < fuel → (f ≤ d ∧ d ≤ g + 1) → (∀ d9, f ≤ d9 → d9 < d → cntB (wth kd fm to sz rl en lst (lst (e0 j3)) y (r0 j3) (nI d9)) n < al (y * 6 + r0 j3)) → lv_has ls 8 [(0, .ref (ad 60)), (1, .int (nI y)), (2, .int (nI f)), (3, .int (nI g)), (4, .int (nI 720)), (5, .int (nI (720 + j3))), (6, .int (nI (al (y * 6 + r0 j3)))), (7, .int (nI d))] → W p l e (headSpec wsX10_refused rm_c_X10_refused).room s m ([.ref (ad 60), .int (nI y), .int (nI f), .int (nI g)] : List Value).toArray below meth c s.heap [] 0 0 Q (F0 m 243 ls []) := by
                          intro fuel
                          induction fuel with
                          | zero => intro d ls hfu hd hno hl; exact absurd hfu (Nat.not_lt_zero _)
                          | succ fuel ih_13 =>
                            intro d ls hfu hd hno hl
                            refine lv_iload hx hb dX10_refused_243 (lv_at hl 7 rfl) ?_
                            refine lv_iload_n hx hb dX10_refused_245 rfl (lv_at hl 3 rfl) ?_
                            refine lv_icmp_gt (tgt := 283) hx hb dX10_refused_246 (by decide) (fun c_14 => ?_) (fun c_14 => ?_)
                            · -- 246: nI d gt
                              have c_14 : g < d := (nI_ltI (a := g) (b := d) (by omega) (by omega)).mp (c_14)
                              refine lv_iinc (v := nI (720 + j3 + 1)) (lv' := [(5, .int (nI (720 + j3 + 1))), (0, .ref (ad 60)), (1, .int (nI y)), (2, .int (nI f)), (3, .int (nI g)), (4, .int (nI 720)), (6, .int (nI (al (y * 6 + r0 j3)))), (7, .int (nI d))]) hx hb dX10_refused_283 hl (k := 5) rfl (nI_add (720 + j3) 1) (by decide) rfl (fun ls hl => ?_)
                              refine lv_goto (tgt := 186) hx hb dX10_refused_286 (by decide) ?_
                              exact ih_8 (j3 + 1) ls (by omega) (by omega) (crw_s hcr (crw_d hfg.2 hfg.1 (fun d9 h9 h8 => hno d9 h9 (by omega)))) (lv_sub hl [1, 2, 3, 4, 5, 0] rfl)
                            · -- 246: nI d le
                              have c_14 : d ≤ g := by have h := mt (nI_ltI (a := g) (b := d) (by omega) (by omega)).mpr c_14; omega
                              refine lv_aload_n hx hb dX10_refused_249 rfl (lv_at hl 0 rfl) ?_
                              refine lv_aload_n hx hb dX10_refused_250 rfl (lv_at hl 0 rfl) ?_
                              refine h_get (C := RX10) (T := TX10) (N := 38) hx hb hts i_RX10 hown hI h60 rfl 10 (by decide) f_42 rfl rfl dX10_refused_251 ?_
                              refine lv_iload hx hb dX10_refused_254 (lv_at hl 5 rfl) ?_
                              refine h_iald (i := 720 + j3) hx hb hI h70 (by omega) (by decide) dX10_refused_256 ?_
                              refine n_eq (show _ = nI (e0 j3) from congrArg nI (hdr j3 (by omega)).2) ?_
                              refine lv_iload_n hx hb dX10_refused_257 rfl (lv_at hl 1 rfl) ?_
                              refine lv_aload_n hx hb dX10_refused_258 rfl (lv_at hl 0 rfl) ?_
                              refine h_get (C := RX10) (T := TX10) (N := 38) hx hb hts i_RX10 hown hI h60 rfl 9 (by decide) f_39 rfl rfl dX10_refused_259 ?_
                              refine lv_iload hx hb dX10_refused_262 (lv_at hl 5 rfl) ?_
                              refine h_iald (i := 720 + j3) hx hb hI h69 (by omega) (by decide) dX10_refused_264 ?_
                              refine n_eq (show _ = nI (r0 j3) from congrArg nI (hdr j3 (by omega)).1) ?_
                              refine lv_iload hx hb dX10_refused_265 (lv_at hl 7 rfl) ?_
                              refine k_Ri (va_runV (As := [.int (nI (e0 j3)), .int (nI y), .int (nI (r0 j3)), .int (nI d)]) (rest := []) ⟨hx, hb, hml, hown, hts⟩ (c_X10_degreeOf l G z ad M (th := th) (ln := n) (on := on) (ao := ao) (vr := vr) (sn := sn) (tp := tp) (pt := pt) (zs := zs) (bg := bg) (fa := fa) (n := n) (kd := kd) (fm := fm) (to := to) (sz := sz) (rl := rl) (en := en) (mk := mk) (mf := mf) (mu := mu) (mz := mz) (rr := rr) (ee := ee) (lst := lst) (t := e0 j3) (y := y) (x := r0 j3) (d := nI d) h60 h65 h66 h67 h68 h69 h70 h71 hw hmr (by omega) (by omega) (by omega) (by omega) hlst) (cwV 4 hts (gV (lwg_of t_1172 rfl) (lwg_of t_1174 rfl) (lwg_of ts_26 rfl) (lwg_of t_13 rfl) (lwg_of t_1175 rfl)) rfl rfl rfl (by decide +kernel) ⟨Nat.le_of_ble_eq_true rfl, Nat.le_of_ble_eq_true rfl⟩) (hI.preV h60 rfl) rfl rfl hl.1 rfl (lv_room (Nat.le_of_ble_eq_true rfl)) dX10_refused_267 ⟨Nat.le_of_ble_eq_true rfl, Nat.le_of_ble_eq_true rfl⟩) (fun _ h => h) (fun r_15 hp_16 => ?_)
                              rw [hp_16]
                              have hcb := cntB_le (wth kd fm to sz rl en lst (lst (e0 j3)) y (r0 j3) (nI d)) n
                              refine lv_iload hx hb dX10_refused_270 (lv_at hl 6 rfl) ?_
                              refine lv_icmp_lt (tgt := 277) hx hb dX10_refused_272 (by decide) (fun c_17 => ?_) (fun c_17 => ?_)
                              · -- 272: nI (cntB (wth kd fm to sz rl en lst (lst (e0 j3)) y (r0 j3)  lt
                                have c_17 : cntB (wth kd fm to sz rl en lst (lst (e0 j3)) y (r0 j3) (nI d)) n < al (y * 6 + r0 j3) := (nI_ltI (a := cntB (wth kd fm to sz rl en lst (lst (e0 j3)) y (r0 j3) (nI d)) n) (b := al (y * 6 + r0 j3)) (by omega) (by omega)).mp (c_17)
                                refine lv_iinc (v := nI (d + 1)) (lv' := [(7, .int (nI (d + 1))), (0, .ref (ad 60)), (1, .int (nI y)), (2, .int (nI f)), (3, .int (nI g)), (4, .int (nI 720)), (5, .int (nI (720 + j3))), (6, .int (nI (al (y * 6 + r0 j3))))]) hx hb dX10_refused_277 hl (k := 7) rfl (nI_add d 1) (by decide) rfl (fun ls hl => ?_)
                                refine lv_goto (tgt := 243) hx hb dX10_refused_280 (by decide) ?_
                                exact ih_13 (d + 1) ls (by omega) (by omega) (fun d9 h9 h8 => by
      by_cases e9 : d9 = d
      · subst e9; assumption
      · exact hno d9 h9 (by omega)) (lv_sub hl [1, 2, 3, 4, 5, 6, 7, 0] rfl)
                              · -- 272: nI (cntB (wth kd fm to sz rl en lst (lst (e0 j3)) y (r0 j3)  ge
                                have c_17 : al (y * 6 + r0 j3) ≤ cntB (wth kd fm to sz rl en lst (lst (e0 j3)) y (r0 j3) (nI d)) n := by have h := mt (nI_ltI (a := cntB (wth kd fm to sz rl en lst (lst (e0 j3)) y (r0 j3) (nI d)) n) (b := al (y * 6 + r0 j3)) (by omega) (by omega)).mpr c_17; omega
                                refine lv_iconst (v := nI 3) hx hb dX10_refused_275 (by decide) ?_
                                subst hQ
                                exact e_Ri hx hb hr rfl hlocks (Or.inr (Or.inr (Or.inl ⟨rfl, ha6, hb6, j3, by omega, by omega, by omega, nI d, (nI_leI (by omega) (by omega)).mpr (by omega), (nI_leI (by omega) (by omega)).mpr (by omega), by assumption⟩))) dX10_refused_276
                        exact lp243_12 ((g + 1 - f) + 1) f ls (Nat.lt_succ_self _) (by omega) (fun d9 h9 h8 => absurd h8 (by omega)) (lv_sub hl [2, 3, 4, 5, 6, 7, 1, 0] rfl)
                      · -- 234: nI (al (y * 6 + r0 j3)) eq
                        have c_11 : al (y * 6 + r0 j3) = 0 := (nI_eq (a := al (y * 6 + r0 j3)) (b := 0) (by omega) (by omega)).mp (c_11)
                        refine lv_goto (tgt := 283) hx hb dX10_refused_237 (by decide) ?_
                        refine lv_iinc (v := nI (720 + j3 + 1)) (lv' := [(5, .int (nI (720 + j3 + 1))), (6, .int (nI (al (y * 6 + r0 j3)))), (0, .ref (ad 60)), (1, .int (nI y)), (2, .int (nI f)), (3, .int (nI g)), (4, .int (nI 720))]) hx hb dX10_refused_283 hl (k := 6) rfl (nI_add (720 + j3) 1) (by decide) rfl (fun ls hl => ?_)
                        refine lv_goto (tgt := 186) hx hb dX10_refused_286 (by decide) ?_
                        exact ih_8 (j3 + 1) ls (by omega) (by omega) (crw_s hcr (fun h => absurd h.2.1 (by omega))) (lv_sub hl [2, 3, 4, 5, 6, 0] rfl)
              exact lp186_7 ((s0 - 0) + 1) 0 ls (Nat.lt_succ_self _) (by omega) (fun ⟨j, hj, _⟩ => absurd hj (Nat.not_lt_zero j)) (lv_sub hl [1, 2, 3, 4, 5, 0] rfl)
            · -- 121: nI (720 + j2) lt
              have c_6 : 720 + j2 < 720 + s0 := by have h := mt (nI_leI (a := 720 + s0) (b := 720 + j2) (by omega) (by omega)).mpr c_6; omega
              have he9 := he0 j2 (by omega)
              refine lv_aload_n hx hb dX10_refused_124 rfl (lv_at hl 0 rfl) ?_
              refine h_get (C := RX10) (T := TX10) (N := 38) hx hb hts i_RX10 hown hI h60 rfl 10 (by decide) f_42 rfl rfl dX10_refused_125 ?_
              refine lv_iload hx hb dX10_refused_128 (lv_at hl 5 rfl) ?_
              refine h_iald (i := 720 + j2) hx hb hI h70 (by omega) (by decide) dX10_refused_130 ?_
              refine n_eq (show _ = nI (e0 j2) from congrArg nI (hdr j2 (by omega)).2) ?_
              refine lv_bipush (v := nI 40) hx hb dX10_refused_131 (by decide) ?_
              refine lv_icmp_lt (tgt := 176) hx hb dX10_refused_133 (by decide) (fun c_18 => ?_) (fun c_18 => ?_)
              · -- 133: nI (e0 j2) lt
                have c_18 : e0 j2 < 40 := (nI_ltI (a := e0 j2) (b := 40) (by omega) (by omega)).mp (c_18)
                refine lv_iinc (v := nI (720 + j2 + 1)) (lv' := [(5, .int (nI (720 + j2 + 1))), (0, .ref (ad 60)), (1, .int (nI y)), (2, .int (nI f)), (3, .int (nI g)), (4, .int (nI 720))]) hx hb dX10_refused_176 hl (k := 5) rfl (nI_add (720 + j2) 1) (by decide) rfl (fun ls hl => ?_)
                refine lv_goto (tgt := 109) hx hb dX10_refused_179 (by decide) ?_
                exact ih_5 (j2 + 1) ls (by omega) (by omega) (lt_s2 hbr (fun h4 => absurd h4 (by omega))) (lv_sub hl [1, 2, 3, 4, 5, 0] rfl)
              · -- 133: nI (e0 j2) ge
                have c_18 : 40 ≤ e0 j2 := by have h := mt (nI_ltI (a := e0 j2) (b := 40) (by omega) (by omega)).mpr c_18; omega
                obtain ⟨_, hmf9, hmt9, _⟩ := hmr (e0 j2 - 40) (by omega)
                refine lv_iload_n hx hb dX10_refused_136 rfl (lv_at hl 2 rfl) ?_
                refine lv_aload_n hx hb dX10_refused_137 rfl (lv_at hl 0 rfl) ?_
                refine h_get (C := RX10) (T := TX10) (N := 38) hx hb hts i_RX10 hown hI h60 rfl 6 (by decide) f_30 rfl rfl dX10_refused_138 ?_
                refine lv_aload_n hx hb dX10_refused_141 rfl (lv_at hl 0 rfl) ?_
                refine h_get (C := RX10) (T := TX10) (N := 38) hx hb hts i_RX10 hown hI h60 rfl 10 (by decide) f_42 rfl rfl dX10_refused_142 ?_
                refine lv_iload hx hb dX10_refused_145 (lv_at hl 5 rfl) ?_
                refine h_iald (i := 720 + j2) hx hb hI h70 (by omega) (by decide) dX10_refused_147 ?_
                refine n_eq (show _ = nI (e0 j2) from congrArg nI (hdr j2 (by omega)).2) ?_
                refine lv_bipush (v := nI 40) hx hb dX10_refused_148 (by decide) ?_
                refine lv_isub hx hb dX10_refused_150 ?_
                refine n_eq (pk_sub (a := e0 j2) (b := 40) (by omega)) ?_
                refine h_iald (i := (e0 j2) - 40) hx hb hI h66 (by omega) (by decide) dX10_refused_151 ?_
                refine n_eq (show _ = fm (e0 j2 - 40) from hmf9) ?_
                refine lv_icmp_lt (tgt := 174) hx hb dX10_refused_152 (by decide) (fun c_19 => ?_) (fun c_19 => ?_)
                · -- 152: nI f lt
                  refine lv_iconst (v := nI 2) hx hb dX10_refused_174 (by decide) ?_
                  subst hQ
                  exact e_Ri hx hb hr rfl hlocks (Or.inr (Or.inl ⟨rfl, ha6, fun h => by have h9 := h j2 (by omega) (by omega); first | exact i_lnle (by assumption) h9.1 | exact absurd h9.2 (by assumption)⟩)) dX10_refused_175
                · -- 152: nI f ge
                  refine lv_iload_n hx hb dX10_refused_155 rfl (lv_at hl 3 rfl) ?_
                  refine lv_aload_n hx hb dX10_refused_156 rfl (lv_at hl 0 rfl) ?_
                  refine h_get (C := RX10) (T := TX10) (N := 38) hx hb hts i_RX10 hown hI h60 rfl 7 (by decide) f_33 rfl rfl dX10_refused_157 ?_
                  refine lv_aload_n hx hb dX10_refused_160 rfl (lv_at hl 0 rfl) ?_
                  refine h_get (C := RX10) (T := TX10) (N := 38) hx hb hts i_RX10 hown hI h60 rfl 10 (by decide) f_42 rfl rfl dX10_refused_161 ?_
                  refine lv_iload hx hb dX10_refused_164 (lv_at hl 5 rfl) ?_
                  refine h_iald (i := 720 + j2) hx hb hI h70 (by omega) (by decide) dX10_refused_166 ?_
                  refine n_eq (show _ = nI (e0 j2) from congrArg nI (hdr j2 (by omega)).2) ?_
                  refine lv_bipush (v := nI 40) hx hb dX10_refused_167 (by decide) ?_
                  refine lv_isub hx hb dX10_refused_169 ?_
                  refine n_eq (pk_sub (a := e0 j2) (b := 40) (by omega)) ?_
                  refine h_iald (i := (e0 j2) - 40) hx hb hI h67 (by omega) (by decide) dX10_refused_170 ?_
                  refine n_eq (show _ = to (e0 j2 - 40) from hmt9) ?_
                  refine lv_icmp_le (tgt := 176) hx hb dX10_refused_171 (by decide) (fun c_20 => ?_) (fun c_20 => ?_)
                  · -- 171: nI g le
                    refine lv_iinc (v := nI (720 + j2 + 1)) (lv' := [(5, .int (nI (720 + j2 + 1))), (0, .ref (ad 60)), (1, .int (nI y)), (2, .int (nI f)), (3, .int (nI g)), (4, .int (nI 720))]) hx hb dX10_refused_176 hl (k := 5) rfl (nI_add (720 + j2) 1) (by decide) rfl (fun ls hl => ?_)
                    refine lv_goto (tgt := 109) hx hb dX10_refused_179 (by decide) ?_
                    exact ih_5 (j2 + 1) ls (by omega) (by omega) (lt_s2 hbr (fun h4 => ⟨i_nlt (by assumption), by assumption⟩)) (lv_sub hl [1, 2, 3, 4, 5, 0] rfl)
                  · -- 171: nI g gt
                    refine lv_iconst (v := nI 2) hx hb dX10_refused_174 (by decide) ?_
                    subst hQ
                    exact e_Ri hx hb hr rfl hlocks (Or.inr (Or.inl ⟨rfl, ha6, fun h => by have h9 := h j2 (by omega) (by omega); first | exact i_lnle (by assumption) h9.1 | exact absurd h9.2 (by assumption)⟩)) dX10_refused_175
        exact lp109_4 ((s0 - 0) + 1) 0 ls (Nat.lt_succ_self _) (by omega) (fun j hj => absurd hj (Nat.not_lt_zero j)) (lv_sub hl [1, 2, 3, 4, 5, 0] rfl)
      · -- 12: nI i lt
        have c_3 : i < 6 := by have h := mt (nI_leI (a := 6) (b := i) (by omega) (by omega)).mpr c_3; omega
        refine lv_iconst (v := nI 0) hx hb dX10_refused_15 (by decide) ?_
        refine lv_istore (lv' := [(6, .int (nI 0)), (0, .ref (ad 60)), (1, .int (nI y)), (2, .int (nI f)), (3, .int (nI g)), (4, .int (nI 720)), (5, .int (nI i))]) hx hb dX10_refused_16 hl (by decide) rfl (fun ls hl => ?_)
        refine lv_iload hx hb dX10_refused_18 (lv_at hl 5 rfl) ?_
        refine lv_istore (lv' := [(7, .int (nI 720)), (6, .int (nI 0)), (0, .ref (ad 60)), (1, .int (nI y)), (2, .int (nI f)), (3, .int (nI g)), (4, .int (nI 720)), (5, .int (nI i))]) hx hb dX10_refused_20 hl (by decide) rfl (fun ls hl => ?_)
        have lp22_21 : ∀ (fuel : Nat) (j : Nat) (cn : Nat) (ls : Array Slot), (s0 - j) < fuel → (j ≤ s0) → (cn = cntR r0 i j) → lv_has ls 8 [(0, .ref (ad 60)), (1, .int (nI y)), (2, .int (nI f)), (3, .int (nI g)), (4, .int (nI 720)), (5, .int (nI i)), (6, .int (nI cn)), (7, .int (nI (720 + j)))] → W p l e (headSpec wsX10_refused rm_c_X10_refused).room s m ([.ref (ad 60), .int (nI y), .int (nI f), .int (nI g)] : List Value).toArray below meth c s.heap [] 0 0 Q (F0 m 22 ls []) := by
          intro fuel
          induction fuel with
          | zero => intro j cn ls hfu hj hcn hl; exact absurd hfu (Nat.not_lt_zero _)
          | succ fuel ih_22 =>
            intro j cn ls hfu hj hcn hl
            refine lv_iload hx hb dX10_refused_22 (lv_at hl 7 rfl) ?_
            refine lv_iload hx hb dX10_refused_24 (lv_at hl 4 rfl) ?_
            refine lv_aload_n hx hb dX10_refused_26 rfl (lv_at hl 0 rfl) ?_
            refine h_get (C := RX10) (T := TX10) (N := 38) hx hb hts i_RX10 hown hI h60 rfl 8 (by decide) f_36 rfl rfl dX10_refused_27 ?_
            refine lv_bipush (v := nI 120) hx hb dX10_refused_30 (by decide) ?_
            refine h_iald (i := 120) hx hb hI h68 (by omega) (by decide) dX10_refused_32 ?_
            refine n_eq (show _ = nI s0 from congrArg nI hmz0) ?_
            refine lv_iadd hx hb dX10_refused_33 ?_
            refine n_eq (nI_add 720 s0) ?_
            refine lv_icmp_ge (tgt := 65) hx hb dX10_refused_34 (by decide) (fun c_23 => ?_) (fun c_23 => ?_)
            · -- 34: nI (720 + j) ge
              have c_23 : 720 + s0 ≤ 720 + j := (nI_leI (a := 720 + s0) (b := 720 + j) (by omega) (by omega)).mp (c_23)
              have hl1 := hle (y * 6 + i) (by omega)
              have hm1 := hmo (y * 6 + i) (by omega)
              have hcs : cn = cntR r0 i s0 := by rw [hcn, show j = s0 by omega]
              have hcl := cntR_le r0 i s0
              refine lv_iload hx hb dX10_refused_65 (lv_at hl 6 rfl) ?_
              refine lv_aload_n hx hb dX10_refused_67 rfl (lv_at hl 0 rfl) ?_
              refine h_get (C := RX10) (T := TX10) (N := 38) hx hb hts i_RX10 hown hI h60 rfl 1 (by decide) f_13 rfl rfl dX10_refused_68 ?_
              refine lv_bipush (v := nI 6) hx hb dX10_refused_71 (by decide) ?_
              refine lv_iload_n hx hb dX10_refused_73 rfl (lv_at hl 1 rfl) ?_
              refine lv_imul hx hb dX10_refused_74 ?_
              refine n_eq (pk_mul 6 y) ?_
              refine lv_iload hx hb dX10_refused_75 (lv_at hl 5 rfl) ?_
              refine lv_iadd hx hb dX10_refused_77 ?_
              refine n_eq (nI_add (6 * y) i) ?_
              refine h_iald (i := (6 * y) + i) hx hb hI h61 (by omega) (by decide) dX10_refused_78 ?_
              refine n_eq (show _ = nI (le (y * 6 + i)) from congrArg (fun k9 => nI (le k9)) (show 6 * y + i = y * 6 + i by omega)) ?_
              refine lv_aload_n hx hb dX10_refused_79 rfl (lv_at hl 0 rfl) ?_
              refine h_get (C := RX10) (T := TX10) (N := 38) hx hb hts i_RX10 hown hI h60 rfl 2 (by decide) f_17 rfl rfl dX10_refused_80 ?_
              refine lv_bipush (v := nI 6) hx hb dX10_refused_83 (by decide) ?_
              refine lv_iload_n hx hb dX10_refused_85 rfl (lv_at hl 1 rfl) ?_
              refine lv_imul hx hb dX10_refused_86 ?_
              refine n_eq (pk_mul 6 y) ?_
              refine lv_iload hx hb dX10_refused_87 (lv_at hl 5 rfl) ?_
              refine lv_iadd hx hb dX10_refused_89 ?_
              refine n_eq (nI_add (6 * y) i) ?_
              refine h_iald (i := (6 * y) + i) hx hb hI h62 (by omega) (by decide) dX10_refused_90 ?_
              refine n_eq (show _ = nI (mo (y * 6 + i)) from congrArg (fun k9 => nI (mo k9)) (show 6 * y + i = y * 6 + i by omega)) ?_
              refine k_Ri (va_runS (As := [.int (nI cn), .int (nI (le (y * 6 + i))), .int (nI (mo (y * 6 + i)))]) (rest := []) ⟨hx, hb, hml, hown, hts⟩ (c_X10_in l G z ad M (x := nI cn) (a := nI (le (y * 6 + i))) (b := nI (mo (y * 6 + i))) ) (va_cwS 3 hts (gS (lwg_of t_1135 rfl) (lwg_of t_1136 rfl) (lwg_of t_13 rfl) (lwg_of t_1137 rfl)) rfl rfl rfl (by decide +kernel) ⟨Nat.le_of_ble_eq_true rfl, Nat.le_of_ble_eq_true rfl⟩) hI.preS rfl rfl hl.1 rfl (lv_room (Nat.le_of_ble_eq_true rfl)) dX10_refused_91 ⟨Nat.le_of_ble_eq_true rfl, Nat.le_of_ble_eq_true rfl⟩) (fun _ h => h) (fun r_24 hp_25 => ?_)
              rw [hp_25]
              refine lv_if_ne (tgt := 99) hx hb dX10_refused_94 (by decide) (fun c_26 => ?_) (fun c_26 => ?_)
              · -- 94: bI (decide ((nI (le (y * 6 + i))) ≤ (nI cn) ∧ (nI cn) ≤ (nI  ne
                have c_26 : decide ((nI (le (y * 6 + i))) ≤ (nI cn) ∧ (nI cn) ≤ (nI (mo (y * 6 + i)))) = true := bI_t (c_26)
                have hin := of_decide_eq_true (by assumption : decide (nI (le (y * 6 + i)) ≤ nI cn ∧ nI cn ≤ nI (mo (y * 6 + i))) = true)
                have hin1 := (nI_leI (by omega) (by omega)).mp hin.1
                have hin2 := (nI_leI (by omega) (by omega)).mp hin.2
                refine lv_iinc (v := nI (i + 1)) (lv' := [(5, .int (nI (i + 1))), (0, .ref (ad 60)), (1, .int (nI y)), (2, .int (nI f)), (3, .int (nI g)), (4, .int (nI 720)), (6, .int (nI cn)), (7, .int (nI (720 + j)))]) hx hb dX10_refused_99 hl (k := 5) rfl (nI_add i 1) (by decide) rfl (fun ls hl => ?_)
                refine lv_goto (tgt := 8) hx hb dX10_refused_102 (by decide) ?_
                exact ih_2 (i + 1) ls (by omega) (by omega) (lt_s2 ha ⟨by rw [← hcs]; exact hin1, by rw [← hcs]; exact hin2⟩) (lv_sub hl [1, 2, 3, 4, 5, 0] rfl)
              · -- 94: bI (decide ((nI (le (y * 6 + i))) ≤ (nI cn) ∧ (nI cn) ≤ (nI  eq
                have c_26 : decide ((nI (le (y * 6 + i))) ≤ (nI cn) ∧ (nI cn) ≤ (nI (mo (y * 6 + i)))) = false := bI_f (c_26)
                refine lv_iconst (v := nI 1) hx hb dX10_refused_97 (by decide) ?_
                subst hQ
                exact e_Ri hx hb hr rfl hlocks (Or.inl ⟨rfl, fun h => absurd (decide_eq_true (by have h9 := h i (by omega); rw [← hcs] at h9; exact ⟨(nI_leI (by omega) (by omega)).mpr h9.1, (nI_leI (by omega) (by omega)).mpr h9.2⟩) : decide (nI (le (y * 6 + i)) ≤ nI cn ∧ nI cn ≤ nI (mo (y * 6 + i))) = true) (by rw [show decide (nI (le (y * 6 + i)) ≤ nI cn ∧ nI cn ≤ nI (mo (y * 6 + i))) = false by assumption]; exact Bool.false_ne_true)⟩) dX10_refused_98
            · -- 34: nI (720 + j) lt
              have c_23 : 720 + j < 720 + s0 := by have h := mt (nI_leI (a := 720 + s0) (b := 720 + j) (by omega) (by omega)).mpr c_23; omega
              have hrj := hr0 j (by omega)
              refine lv_iload hx hb dX10_refused_37 (lv_at hl 6 rfl) ?_
              refine lv_aload_n hx hb dX10_refused_39 rfl (lv_at hl 0 rfl) ?_
              refine h_get (C := RX10) (T := TX10) (N := 38) hx hb hts i_RX10 hown hI h60 rfl 9 (by decide) f_39 rfl rfl dX10_refused_40 ?_
              refine lv_iload hx hb dX10_refused_43 (lv_at hl 7 rfl) ?_
              refine h_iald (i := 720 + j) hx hb hI h69 (by omega) (by decide) dX10_refused_45 ?_
              refine n_eq (show _ = nI (r0 j) from congrArg nI (hdr j (by omega)).1) ?_
              refine lv_iload hx hb dX10_refused_46 (lv_at hl 5 rfl) ?_
              refine lv_icmp_ne (tgt := 55) hx hb dX10_refused_48 (by decide) (fun c_27 => ?_) (fun c_27 => ?_)
              · -- 48: nI (r0 j) ne
                have c_27 : r0 j ≠ i := by have h := mt (nI_eq (a := r0 j) (b := i) (by omega) (by omega)).mpr c_27; omega
                refine lv_iconst (v := nI 0) hx hb dX10_refused_55 (by decide) ?_
                refine lv_iadd hx hb dX10_refused_56 ?_
                refine n_eq (nI_add cn 0) ?_
                refine lv_istore (lv' := [(6, .int (nI (cn + 0))), (0, .ref (ad 60)), (1, .int (nI y)), (2, .int (nI f)), (3, .int (nI g)), (4, .int (nI 720)), (5, .int (nI i)), (7, .int (nI (720 + j)))]) hx hb dX10_refused_57 hl (by decide) rfl (fun ls hl => ?_)
                refine lv_iinc (v := nI (720 + j + 1)) (lv' := [(7, .int (nI (720 + j + 1))), (6, .int (nI (cn + 0))), (0, .ref (ad 60)), (1, .int (nI y)), (2, .int (nI f)), (3, .int (nI g)), (4, .int (nI 720)), (5, .int (nI i))]) hx hb dX10_refused_59 hl (k := 7) rfl (nI_add (720 + j) 1) (by decide) rfl (fun ls hl => ?_)
                refine lv_goto (tgt := 22) hx hb dX10_refused_62 (by decide) ?_
                exact ih_22 (j + 1) (cn + 0) ls (by omega) (by omega) (by rw [cntR, if_neg (by assumption), hcn]; rfl) (lv_sub hl [2, 3, 4, 5, 6, 7, 1, 0] rfl)
              · -- 48: nI (r0 j) eq
                have c_27 : r0 j = i := (nI_eq (a := r0 j) (b := i) (by omega) (by omega)).mp (c_27)
                refine lv_iconst (v := nI 1) hx hb dX10_refused_51 (by decide) ?_
                refine lv_goto (tgt := 56) hx hb dX10_refused_52 (by decide) ?_
                refine lv_iadd hx hb dX10_refused_56 ?_
                refine n_eq (nI_add cn 1) ?_
                refine lv_istore (lv' := [(6, .int (nI (cn + 1))), (0, .ref (ad 60)), (1, .int (nI y)), (2, .int (nI f)), (3, .int (nI g)), (4, .int (nI 720)), (5, .int (nI i)), (7, .int (nI (720 + j)))]) hx hb dX10_refused_57 hl (by decide) rfl (fun ls hl => ?_)
                refine lv_iinc (v := nI (720 + j + 1)) (lv' := [(7, .int (nI (720 + j + 1))), (6, .int (nI (cn + 1))), (0, .ref (ad 60)), (1, .int (nI y)), (2, .int (nI f)), (3, .int (nI g)), (4, .int (nI 720)), (5, .int (nI i))]) hx hb dX10_refused_59 hl (k := 7) rfl (nI_add (720 + j) 1) (by decide) rfl (fun ls hl => ?_)
                refine lv_goto (tgt := 22) hx hb dX10_refused_62 (by decide) ?_
                exact ih_22 (j + 1) (cn + 1) ls (by omega) (by omega) (by rw [cntR, if_pos (by assumption), hcn]) (lv_sub hl [2, 3, 4, 5, 6, 7, 1, 0] rfl)
        exact lp22_21 ((s0 - 0) + 1) 0 0 ls (Nat.lt_succ_self _) (by omega) (rfl) (lv_sub hl [2, 3, 4, 5, 6, 7, 1, 0] rfl)
  exact lp8_1 ((6 - 0) + 1) 0 ls (Nat.lt_succ_self _) (by omega) (fun j hj => absurd hj (Nat.not_lt_zero j)) (lv_sub hl [2, 3, 4, 5, 1, 0] rfl)
