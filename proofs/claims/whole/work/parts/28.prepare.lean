theorem inS_1 (t : Nat) : inS 1 t = true ↔ t = 0 := by
  have h : (1 : Int64).toBitVec = BitVec.twoPow 64 0 := by decide
  rw [inS, h, BitVec.getLsbD_twoPow]
  constructor
  · intro h; simp at h; exact h.symm
  · rintro rfl; rfl
/-- some fit of those below n has t among what it leaves to v -/
def fS (sx : Nat → Int64) (i v n t : Nat) : Prop := ∃ f, f < n ∧ inS (sx ((i * 120 + f) * 3 + v)) t = true
def dS (sx : Nat → Int64) (ft : Nat → Nat) (nt : Nat → Bool) (v m t : Nat) : Prop := t < 40 ∧ ∀ i, i < m → nt i = false → fS sx i v (ft i) t
section DS
variable {sx : Nat → Int64} {ft : Nat → Nat} {nt : Nat → Bool} {v i f : Nat} {y w : Int64}
theorem fS_0 : ∀ t, inS 0 t = true ↔ fS sx i v 0 t := fun t => ⟨fun h => (by rw [inS_0] at h; cases h), fun ⟨j, h, _⟩ => absurd h (Nat.not_lt_zero j)⟩
theorem fS_s (h : ∀ t, inS w t = true ↔ fS sx i v f t) : ∀ t, inS (w ||| sx ((i * 120 + f) * 3 + v)) t = true ↔ fS sx i v (f + 1) t := fun t => by
  rw [inS_or, Bool.or_eq_true, h t]
  constructor
  · rintro (⟨g, h1, h2⟩ | h1)
    · exact ⟨g, by omega, h2⟩
    · exact ⟨f, by omega, h1⟩
  · rintro ⟨g, h1, h2⟩
    by_cases e : g = f
    · subst e; exact Or.inr h2
    · exact Or.inl ⟨g, by omega, h2⟩
theorem dS_0 : ∀ t, inS 1099511627775 t = true ↔ dS sx ft nt v 0 t := fun t => by
  rw [inS_all, decide_eq_true_eq]
  exact ⟨fun h => ⟨h, fun i hi => absurd hi (Nat.not_lt_zero i)⟩, fun h => h.1⟩
theorem dS_no (h : ∀ t, inS y t = true ↔ dS sx ft nt v i t) (hn : nt i = true) : ∀ t, inS y t = true ↔ dS sx ft nt v (i + 1) t := fun t => (h t).trans ⟨fun ⟨a, b⟩ => ⟨a, lt_s2 b (fun e => by rw [hn] at e; cases e)⟩, fun ⟨a, b⟩ => ⟨a, fun j hj => b j (by omega)⟩⟩
theorem dS_yes (h : ∀ t, inS y t = true ↔ dS sx ft nt v i t) (hn : nt i = false) (hw : ∀ t, inS w t = true ↔ fS sx i v (ft i) t) : ∀ t, inS (y &&& w) t = true ↔ dS sx ft nt v (i + 1) t := fun t => by
  rw [inS_and, Bool.and_eq_true, h t, hw t]
  exact ⟨fun ⟨⟨a, b⟩, c⟩ => ⟨a, lt_s2 b (fun _ => c)⟩, fun ⟨a, b⟩ => ⟨⟨a, fun j hj => b j (by omega)⟩, b i (by omega) hn⟩⟩
end DS
/-- the things that a variable may be, as the matcher lays them down -/
def dmO (uv aa : Nat) (nt : Nat → Bool) (sx : Nat → Int64) (ft : Nat → Nat) (v : Nat) (d : Int64) : Prop := (uv.testBit v = false → ∀ t, inS d t = true ↔ t = 0) ∧ (uv.testBit v = true → ∀ t, inS d t = true ↔ dS sx ft nt v aa t)

/-- X4_domain -/
abbrev rm_c_X4_domain : Room := { frames := 1, cells := 0, slots := 0, locals := 21 }
set_option maxHeartbeats 4000000 in
set_option maxRecDepth 100000 in
theorem c_X4_domain (l : Launch) (G : GG) (z : Nat) (ad : Nat → Nat) (M : Mem) {qm : Nat} {pz : Nat} {aa : Nat} {uv : Nat} {nt : Nat → Bool} {sx : Nat → Int64} {ft : Nat → Nat} {v : Nat} (h23 : M 23 = some (cMatcher ad qm pz)) (h24 : M 24 = some (aJ G 2160 sx)) (h25 : M 25 = some (aI G 6 (nF ft))) (hk : M qm = some (cQuestion ad qm aa uv)) (q2 : M (qm + 2) = some (aZ G 6 (bF nt))) (haa : aa ≤ 6) (huv : uv < 8) (hv3 : v < 3) (hft : ∀ i, i < aa → ft i ≤ 120) : Met l yX4_domain wsX4_domain rm_c_X4_domain (Pr G z ad M [.ref (ad 23), .int (nI v)]) (vp_Sl (fun r : Int64 => dmO uv aa nt sx ft v r)) 0 0 (fun _ => False) := by
  refine Met.ofW (cc := cX4_domain) (maxL := 8) (ret := (some .long)) (by decide) rfl ?_
  intro p e s m args below meth c s₁ B hml hv
  obtain ⟨rfl, hv⟩ := hv
  have hI := Iv.entry hv
  have hx := B.exec
  have hb := B.bytes
  have hr := B.returns
  have hts := atoms_spec (ws := wsX4_domain) B.pre
  have hown : s.vm.findClass RX4 = some m.cls := findClass_of_methodNamed B.named
  have hlocks := B.notSynchronized
  have i_RX4 : ∀ w ∈ u_ws RX4 TX4 7, w ∈ wsX4_domain := fun w h => List.mem_cons_of_mem _ (iu_X4 w h)
  have f_31 := hts _ (List.mem_cons_of_mem _ (lwg_of t_220 rfl))
  have k_101 := hts _ (List.mem_cons_of_mem _ (lwg_of t_363 rfl))
  have f_15 := hts _ (List.mem_cons_of_mem _ (lwg_of t_216 rfl))
  have f_9 := hts _ (List.mem_cons_of_mem _ (lwg_of t_215 rfl))
  have hl := lv_entry ([.ref (ad 23), .int (nI v)]) (n := 8) (Nat.le_of_ble_eq_true rfl)
  rw [lg_entry_eq]
  generalize (lg_sl ([.ref (ad 23), .int (nI v)]) ++ List.replicate (8 - (lg_sl ([.ref (ad 23), .int (nI v)])).length) Slot.unset).toArray = ls at hl ⊢
  have hl : lv_has ls 8 [(0, .ref (ad 23)), (1, .int (nI v))] := hl
  refine w_q (fun Q hQ => ?_)
  refine lv_aload_n hx hb dX4_domain_0 rfl (lv_at hl 0 rfl) ?_
  refine h_get (C := RX4) (T := TX4) (N := 7) hx hb hts i_RX4 hown hI h23 rfl 5 (by decide) f_31 rfl rfl dX4_domain_1 ?_
  refine lv_iload_n hx hb dX4_domain_4 rfl (lv_at hl 1 rfl) ?_
  refine k_Ri (va_runV (As := [.int (nI v)]) (rest := []) ⟨hx, hb, hml, hown, hts⟩ (c_X6_uses l G z ad M (k := qm) (aa := aa) (uv := uv) (v := v) hk (by omega) (by omega)) (cwV 1 hts (gV (lwg_of t_389 rfl) (lwg_of t_390 rfl) (lwg_of t_391 rfl) (lwg_of t_12 rfl) (lwg_of t_392 rfl)) rfl rfl rfl (by decide +kernel) ⟨Nat.le_of_ble_eq_true rfl, Nat.le_of_ble_eq_true rfl⟩) (hI.preV hk rfl) rfl rfl hl.1 rfl (lv_room (Nat.le_of_ble_eq_true rfl)) dX4_domain_5 ⟨Nat.le_of_ble_eq_true rfl, Nat.le_of_ble_eq_true rfl⟩) (fun _ h => h) (fun r_1 hp_2 => ?_)
  rw [hp_2]
  refine lv_if_ne (tgt := 13) hx hb dX4_domain_8 (by decide) (fun c_3 => ?_) (fun c_3 => ?_)
  · -- 8: bI (uv.testBit v) ne
    have c_3 : uv.testBit v = true := bI_t (c_3)
    refine lv_ldc2 hx hb hown k_101 dX4_domain_13 ?_
    refine lv_lstore_n (lv' := [(2, .long 1099511627775), (0, .ref (ad 23)), (1, .int (nI v))]) hx hb dX4_domain_16 rfl hl (by decide) rfl (fun ls hl => ?_)
    refine lv_iconst (v := nI 0) hx hb dX4_domain_17 (by decide) ?_
    refine lv_istore (lv' := [(4, .int (nI 0)), (2, .long 1099511627775), (0, .ref (ad 23)), (1, .int (nI v))]) hx hb dX4_domain_18 hl (by decide) rfl (fun ls hl => ?_)
    have lp20_4 : ∀ (fuel : Nat) (i : Nat) (y : Int64) (ls : Array Slot), (aa - i) < fuel → (i ≤ aa) → (∀ t, inS y t = true ↔ dS sx ft nt v i t) → lv_has ls 8 [(0, .ref (ad 23)), (1, .int (nI v)), (2, .long y), (4, .int (nI i))] → W p l e (headSpec wsX4_domain rm_c_X4_domain).room s m ([.ref (ad 23), .int (nI v)] : List Value).toArray below meth c s.heap [] 0 0 Q (F0 m 20 ls []) := by
      intro fuel
      induction fuel with
      | zero => intro i y ls hfu hi hy hl; exact absurd hfu (Nat.not_lt_zero _)
      | succ fuel ih_5 =>
        intro i y ls hfu hi hy hl
        refine lv_iload hx hb dX4_domain_20 (lv_at hl 3 rfl) ?_
        refine lv_aload_n hx hb dX4_domain_22 rfl (lv_at hl 0 rfl) ?_
        refine h_get (C := RX4) (T := TX4) (N := 7) hx hb hts i_RX4 hown hI h23 rfl 5 (by decide) f_31 rfl rfl dX4_domain_23 ?_
        refine k_Ri (va_runV (As := []) (rest := [.int (nI i)]) ⟨hx, hb, hml, hown, hts⟩ (c_X6_atoms l G z ad M (k := qm) (aa := aa) (uv := uv) hk) (cwV 0 hts (gV (lwg_of t_323 rfl) (lwg_of t_316 rfl) (lwg_of t_317 rfl) (lwg_of t_12 rfl) (lwg_of t_318 rfl)) rfl rfl rfl (by decide +kernel) ⟨Nat.le_of_ble_eq_true rfl, Nat.le_of_ble_eq_true rfl⟩) (hI.preV hk rfl) rfl rfl hl.1 rfl (lv_room (Nat.le_of_ble_eq_true rfl)) dX4_domain_26 ⟨Nat.le_of_ble_eq_true rfl, Nat.le_of_ble_eq_true rfl⟩) (fun _ h => h) (fun r_6 hp_7 => ?_)
        rw [hp_7]
        refine lv_icmp_ge (tgt := 104) hx hb dX4_domain_29 (by decide) (fun c_8 => ?_) (fun c_8 => ?_)
        · -- 29: nI i ge
          have c_8 : aa ≤ i := (nI_leI (a := aa) (b := i) (by omega) (by omega)).mp (c_8)
          refine lv_lload_n hx hb dX4_domain_104 rfl (lv_at hl 2 rfl) ?_
          subst hQ
          exact e_Rl hx hb hr hlocks (⟨fun h => (by simp_all), fun _ => (by rw [show aa = i by omega]; exact hy)⟩) dX4_domain_105
        · -- 29: nI i lt
          have c_8 : i < aa := by have h := mt (nI_leI (a := aa) (b := i) (by omega) (by omega)).mpr c_8; omega
          have hft1 := hft i (by omega)
          refine lv_aload_n hx hb dX4_domain_32 rfl (lv_at hl 0 rfl) ?_
          refine h_get (C := RX4) (T := TX4) (N := 7) hx hb hts i_RX4 hown hI h23 rfl 5 (by decide) f_31 rfl rfl dX4_domain_33 ?_
          refine lv_iload hx hb dX4_domain_36 (lv_at hl 3 rfl) ?_
          refine k_Ri (va_runV (As := [.int (nI i)]) (rest := []) ⟨hx, hb, hml, hown, hts⟩ (c_X6_isNot l G z ad M (k := qm) (aa := aa) (uv := uv) (nt := nt) (i := i) hk q2 (by omega)) (cwV 1 hts (gV (lwg_of t_393 rfl) (lwg_of t_394 rfl) (lwg_of t_395 rfl) (lwg_of t_12 rfl) (lwg_of t_396 rfl)) rfl rfl rfl (by decide +kernel) ⟨Nat.le_of_ble_eq_true rfl, Nat.le_of_ble_eq_true rfl⟩) (hI.preV hk rfl) rfl rfl hl.1 rfl (lv_room (Nat.le_of_ble_eq_true rfl)) dX4_domain_38 ⟨Nat.le_of_ble_eq_true rfl, Nat.le_of_ble_eq_true rfl⟩) (fun _ h => h) (fun r_9 hp_10 => ?_)
          rw [hp_10]
          refine lv_if_eq (tgt := 47) hx hb dX4_domain_41 (by decide) (fun c_11 => ?_) (fun c_11 => ?_)
          · -- 41: bI (nt i) eq
            have c_11 : nt i = false := bI_f (c_11)
            refine lv_lconst (v := 0) hx hb dX4_domain_47 (by decide) ?_
            refine lv_lstore (lv' := [(5, .long (0 : Int64)), (0, .ref (ad 23)), (1, .int (nI v)), (2, .long y), (4, .int (nI i))]) hx hb dX4_domain_48 hl (by decide) rfl (fun ls hl => ?_)
            refine lv_iconst (v := nI 0) hx hb dX4_domain_50 (by decide) ?_
            refine lv_istore (lv' := [(7, .int (nI 0)), (5, .long (0 : Int64)), (0, .ref (ad 23)), (1, .int (nI v)), (2, .long y), (4, .int (nI i))]) hx hb dX4_domain_51 hl (by decide) rfl (fun ls hl => ?_)
            have lp53_12 : ∀ (fuel : Nat) (f : Nat) (w : Int64) (ls : Array Slot), (ft i - f) < fuel → (f ≤ ft i) → (∀ t, inS w t = true ↔ fS sx i v f t) → lv_has ls 8 [(0, .ref (ad 23)), (1, .int (nI v)), (2, .long y), (4, .int (nI i)), (5, .long w), (7, .int (nI f))] → W p l e (headSpec wsX4_domain rm_c_X4_domain).room s m ([.ref (ad 23), .int (nI v)] : List Value).toArray below meth c s.heap [] 0 0 Q (F0 m 53 ls []) := by
              intro fuel
              induction fuel with
              | zero => intro f w ls hfu hfi hf hl; exact absurd hfu (Nat.not_lt_zero _)
              | succ fuel ih_13 =>
                intro f w ls hfu hfi hf hl
                refine lv_iload hx hb dX4_domain_53 (lv_at hl 5 rfl) ?_
                refine lv_aload_n hx hb dX4_domain_55 rfl (lv_at hl 0 rfl) ?_
                refine h_get (C := RX4) (T := TX4) (N := 7) hx hb hts i_RX4 hown hI h23 rfl 1 (by decide) f_15 rfl rfl dX4_domain_56 ?_
                refine lv_iload hx hb dX4_domain_59 (lv_at hl 3 rfl) ?_
                refine h_iald (i := i) hx hb hI h25 (by omega) (by decide) dX4_domain_61 ?_
                refine lv_icmp_ge (tgt := 93) hx hb dX4_domain_62 (by decide) (fun c_14 => ?_) (fun c_14 => ?_)
                · -- 62: nI f ge
                  have c_14 : ft i ≤ f := (nI_leI (a := ft i) (b := f) (by omega) (by omega)).mp (c_14)
                  refine lv_lload_n hx hb dX4_domain_93 rfl (lv_at hl 2 rfl) ?_
                  refine lv_lload hx hb dX4_domain_94 (lv_at hl 4 rfl) ?_
                  refine lv_land hx hb dX4_domain_96 ?_
                  refine lv_lstore_n (lv' := [(2, .long (y &&& w)), (0, .ref (ad 23)), (1, .int (nI v)), (4, .int (nI i)), (5, .long w), (7, .int (nI f))]) hx hb dX4_domain_97 rfl hl (by decide) rfl (fun ls hl => ?_)
                  refine lv_iinc (v := nI (i + 1)) (lv' := [(4, .int (nI (i + 1))), (2, .long (y &&& w)), (0, .ref (ad 23)), (1, .int (nI v)), (5, .long w), (7, .int (nI f))]) hx hb dX4_domain_98 hl (k := 3) rfl (nI_add i 1) (by decide) rfl (fun ls hl => ?_)
                  refine lv_goto (tgt := 20) hx hb dX4_domain_101 (by decide) ?_
                  exact ih_5 (i + 1) (y &&& w) ls (by omega) (by omega) (dS_yes hy (by assumption) (fun t => by rw [show ft i = f by omega]; exact hf t)) (lv_sub hl [2, 3, 1, 0] rfl)
                · -- 62: nI f lt
                  have c_14 : f < ft i := by have h := mt (nI_leI (a := ft i) (b := f) (by omega) (by omega)).mpr c_14; omega
                  refine lv_lload hx hb dX4_domain_65 (lv_at hl 4 rfl) ?_
                  refine lv_aload_n hx hb dX4_domain_67 rfl (lv_at hl 0 rfl) ?_
                  refine h_get (C := RX4) (T := TX4) (N := 7) hx hb hts i_RX4 hown hI h23 rfl 0 (by decide) f_9 rfl rfl dX4_domain_68 ?_
                  refine lv_iload hx hb dX4_domain_71 (lv_at hl 3 rfl) ?_
                  refine lv_bipush (v := nI 120) hx hb dX4_domain_73 (by decide) ?_
                  refine lv_imul hx hb dX4_domain_75 ?_
                  refine n_eq (pk_mul i 120) ?_
                  refine lv_iload hx hb dX4_domain_76 (lv_at hl 5 rfl) ?_
                  refine lv_iadd hx hb dX4_domain_78 ?_
                  refine n_eq (nI_add (i * 120) f) ?_
                  refine lv_iconst (v := nI 3) hx hb dX4_domain_79 (by decide) ?_
                  refine lv_imul hx hb dX4_domain_80 ?_
                  refine n_eq (pk_mul ((i * 120) + f) 3) ?_
                  refine lv_iload_n hx hb dX4_domain_81 rfl (lv_at hl 1 rfl) ?_
                  refine lv_iadd hx hb dX4_domain_82 ?_
                  refine n_eq (nI_add (((i * 120) + f) * 3) v) ?_
                  refine h_lald (i := (((i * 120) + f) * 3) + v) hx hb hI h24 (by omega) (by decide) dX4_domain_83 ?_
                  refine lv_lor hx hb dX4_domain_84 ?_
                  refine lv_lstore (lv' := [(5, .long (w ||| (sx ((((i * 120) + f) * 3) + v)))), (0, .ref (ad 23)), (1, .int (nI v)), (2, .long y), (4, .int (nI i)), (7, .int (nI f))]) hx hb dX4_domain_85 hl (by decide) rfl (fun ls hl => ?_)
                  refine lv_iinc (v := nI (f + 1)) (lv' := [(7, .int (nI (f + 1))), (5, .long (w ||| (sx ((((i * 120) + f) * 3) + v)))), (0, .ref (ad 23)), (1, .int (nI v)), (2, .long y), (4, .int (nI i))]) hx hb dX4_domain_87 hl (k := 5) rfl (nI_add f 1) (by decide) rfl (fun ls hl => ?_)
                  refine lv_goto (tgt := 53) hx hb dX4_domain_90 (by decide) ?_
                  exact ih_13 (f + 1) (w ||| (sx ((((i * 120) + f) * 3) + v))) ls (by omega) (by omega) (fS_s hf) (lv_sub hl [2, 3, 4, 5, 1, 0] rfl)
            exact lp53_12 ((ft i - 0) + 1) 0 (0 : Int64) ls (Nat.lt_succ_self _) (by omega) (fS_0) (lv_sub hl [2, 3, 4, 5, 1, 0] rfl)
          · -- 41: bI (nt i) ne
            have c_11 : nt i = true := bI_t (c_11)
            refine lv_goto (tgt := 98) hx hb dX4_domain_44 (by decide) ?_
            refine lv_iinc (v := nI (i + 1)) (lv' := [(4, .int (nI (i + 1))), (0, .ref (ad 23)), (1, .int (nI v)), (2, .long y)]) hx hb dX4_domain_98 hl (k := 3) rfl (nI_add i 1) (by decide) rfl (fun ls hl => ?_)
            refine lv_goto (tgt := 20) hx hb dX4_domain_101 (by decide) ?_
            exact ih_5 (i + 1) y ls (by omega) (by omega) (dS_no hy (by assumption)) (lv_sub hl [1, 2, 3, 0] rfl)
    exact lp20_4 ((aa - 0) + 1) 0 1099511627775 ls (Nat.lt_succ_self _) (by omega) (dS_0) (lv_sub hl [2, 3, 1, 0] rfl)
  · -- 8: bI (uv.testBit v) eq
    have c_3 : uv.testBit v = false := bI_f (c_3)
    refine lv_lconst (v := 1) hx hb dX4_domain_11 (by decide) ?_
    subst hQ
    exact e_Rl hx hb hr hlocks (⟨fun _ => inS_1, fun h => (by simp_all)⟩) dX4_domain_12

def kQ (kd : Nat → Nat) (fm to : Nat → Int32) (kn : Nat → Nat) (d : Int32) (q i : Nat) : Prop := kd q = kn i ∧ decide (fm q ≤ d ∧ d ≤ to q) = true
/-- fit f of atom i holds what line q leaves to the variables -/
def stO (T : Nat → Nat → Nat → Prop) (ro te pn : Nat → Nat) (sx : Nat → Int64) (i f q : Nat) : Prop := ∀ v, v < 3 → ∀ t, inS (sx ((i * 120 + f) * 3 + v)) t = true ↔ sV (T q) ro te i v (pn i) t
/-- the fits of atom i are those of the lines below m -/
def gd (K : Nat → Nat → Prop) (T : Nat → Nat → Nat → Prop) (lst ro te pn : Nat → Nat) (i m : Nat) (sx : Nat → Int64) (ft : Nat → Nat) : Prop := ft i ≤ m ∧ (∀ f, f < ft i → ∃ q, q < m ∧ K q i ∧ FF (T q) lst ro te pn i ∧ stO T ro te pn sx i f q) ∧ ∀ q, q < m → K q i → FF (T q) lst ro te pn i → ∃ f, f < ft i ∧ stO T ro te pn sx i f q
section GD
variable {K : Nat → Nat → Prop} {T : Nat → Nat → Nat → Prop} {lst ro te pn : Nat → Nat} {i i2 m : Nat} {sx s2 : Nat → Int64} {ft f2 : Nat → Nat}
theorem stO_keep {f q : Nat} (h : stO T ro te pn sx i f q) (hs : ∀ v, v < 3 → s2 ((i * 120 + f) * 3 + v) = sx ((i * 120 + f) * 3 + v)) : stO T ro te pn s2 i f q := fun v hv t => by rw [hs v hv]; exact h v hv t
theorem gd_0 (h : ft i = 0) : gd K T lst ro te pn i 0 sx ft := ⟨by omega, fun f hf => by omega, fun q hq => by omega⟩
theorem gd_keep (h : gd K T lst ro te pn i m sx ft) (hf : f2 i = ft i) (hs : ∀ f, f < ft i → ∀ v, v < 3 → s2 ((i * 120 + f) * 3 + v) = sx ((i * 120 + f) * 3 + v)) : gd K T lst ro te pn i m s2 f2 := by
  obtain ⟨h1, h2, h3⟩ := h
  refine ⟨by omega, fun f hf2 => ?_, fun q hq hK hF => ?_⟩
  · obtain ⟨q, a, b, c, d⟩ := h2 f (by omega)
    exact ⟨q, a, b, c, stO_keep d (hs f (by omega))⟩
  · obtain ⟨f, a, b⟩ := h3 q hq hK hF
    exact ⟨f, by omega, stO_keep b (hs f a)⟩
theorem gd_skip (h : gd K T lst ro te pn i m sx ft) (hn : K m i → ¬ FF (T m) lst ro te pn i) : gd K T lst ro te pn i (m + 1) sx ft := by
  obtain ⟨h1, h2, h3⟩ := h
  refine ⟨by omega, fun f hf => ?_, fun q hq hK hF => ?_⟩
  · obtain ⟨q, a, b⟩ := h2 f hf
    exact ⟨q, by omega, b⟩
  · by_cases e : q = m
    · subst e; exact absurd hF (hn hK)
    · exact h3 q (by omega) hK hF
theorem gd_add (h : gd K T lst ro te pn i m sx ft) (hK : K m i) (hP : (f2 = ft ∧ ¬ FF (T m) lst ro te pn i ∨ f2 = va_up ft i (ft i + 1) ∧ FF (T m) lst ro te pn i ∧ ∀ v, v < 3 → ∀ t, inS (s2 ((i * 120 + ft i) * 3 + v)) t = true ↔ sV (T m) ro te i v (pn i) t) ∧ oth3 s2 sx ((i * 120 + ft i) * 3)) : gd K T lst ro te pn i (m + 1) s2 f2 := by
  obtain ⟨hP, ho⟩ := hP
  have hs : ∀ f, f < ft i → ∀ v, v < 3 → s2 ((i * 120 + f) * 3 + v) = sx ((i * 120 + f) * 3 + v) := fun f hf v hv => ho _ (by omega)
  rcases hP with ⟨rfl, hn⟩ | ⟨rfl, hF, hv⟩
  · exact gd_skip (gd_keep h rfl hs) (fun _ => hn)
  · obtain ⟨h1, h2, h3⟩ := h
    have e : va_up ft i (ft i + 1) i = ft i + 1 := va_up_self _ _ _
    refine ⟨by omega, fun f hf => ?_, fun q hq hK2 hF2 => ?_⟩
    · by_cases e2 : f = ft i
      · subst e2; exact ⟨m, by omega, hK, hF, hv⟩
      · obtain ⟨q, a, b, c, d⟩ := h2 f (by omega)
        exact ⟨q, by omega, b, c, stO_keep d (hs f (by omega))⟩
    · by_cases e2 : q = m
      · subst e2; exact ⟨ft i, by omega, hv⟩
      · obtain ⟨f, a, b⟩ := h3 q (by omega) hK2 hF2
        exact ⟨f, by omega, stO_keep b (hs f a)⟩
theorem gd_oth (h : gd K T lst ro te pn i2 m sx ft) (hi : i2 < i) (hm : m ≤ 120) (hP : (f2 = ft ∧ ¬ FF (T m) lst ro te pn i ∨ f2 = va_up ft i (ft i + 1) ∧ FF (T m) lst ro te pn i ∧ ∀ v, v < 3 → ∀ t, inS (s2 ((i * 120 + ft i) * 3 + v)) t = true ↔ sV (T m) ro te i v (pn i) t) ∧ oth3 s2 sx ((i * 120 + ft i) * 3)) : True := trivial
theorem gd_old {X : Prop} (h : gd K T lst ro te pn i2 m sx ft) (hi : i2 < i) (hm : m ≤ 120) (hP : (f2 = ft ∧ X ∨ f2 = va_up ft i (ft i + 1) ∧ True) ) (ho : oth3 s2 sx ((i * 120 + ft i) * 3)) : gd K T lst ro te pn i2 m s2 f2 := by
  have hle := h.1
  refine gd_keep h ?_ (fun f hf v hv => ho _ (by omega))
  rcases hP with ⟨rfl, _⟩ | ⟨rfl, _⟩
  · rfl
  · exact va_up_ne _ _ (by omega)
end GD

/-- X4_prepare -/
abbrev rm_c_X4_prepare : Room := { frames := 4, cells := 0, slots := 0, locals := 85 }
set_option maxHeartbeats 4000000 in
set_option maxRecDepth 100000 in
theorem c_X4_prepare (l : Launch) (G : GG) (z : Nat) (ad : Nat → Nat) (M : Mem) {n : Nat} {kd : Nat → Nat} {fm : Nat → Int32} {to : Nat → Int32} {sz : Nat → Nat} {rl : Nat → Nat → Nat} {en : Nat → Nat → Nat} {qm : Nat} {pz : Nat} {aa : Nat} {uv : Nat} {qn : Nat} {jn : Nat} {lst : Nat → Nat} {kn : Nat → Nat} {nt : Nat → Bool} {pn : Nat → Nat} {ro : Nat → Nat} {te : Nat → Nat} {sx : Nat → Int64} {ft : Nat → Nat} {dm : Nat → Int64} {d : Int32} (hL : LSm G ad M n kd fm to sz rl en) (h23 : M 23 = some (cMatcher ad qm pz)) (h24 : M 24 = some (aJ G 2160 sx)) (h25 : M 25 = some (aI G 6 (nF ft))) (h27 : M 27 = some (aJ G 3 dm)) (hk : M qn = some (cQuestion ad qn aa uv)) (q1 : M (qn + 1) = some (aI G 6 (nF kn))) (q2 : M (qn + 2) = some (aZ G 6 (bF nt))) (q3 : M (qn + 3) = some (aI G 6 (nF pn))) (q5 : M (qn + 5) = some (aI G 24 (nF ro))) (q6 : M (qn + 6) = some (aI G 24 (nF te))) (h8 : M 8 = some (cOnes ad jn)) (h10 : M 10 = some (aI G 40 (nF lst))) (hw : LSw n kd sz rl en) (hqn : 29 < qn ∧ qn < 51) (haa : aa ≤ 6) (huv : uv < 8) (hqw : (∀ i, i < aa → kn i < 6 ∧ pn i ≤ 4 ∧ ∀ j, j < pn i → ro (i * 4 + j) < 6 ∧ te (i * 4 + j) < 43)) (hlst : ∀ u, u < 40 → lst u < 40) : Met l yX4_prepare wsX4_prepare rm_c_X4_prepare (Pr G z ad M [.ref (ad 23), .ref (ad qn), .ref (ad 16), .ref (ad 8), .int d]) (Nv G z ad (fun (M' : Mem) => ∃ s2 : Nat → Int64, ∃ f2 : Nat → Nat, ∃ d2 : Nat → Int64, M' 23 = some (cMatcher ad qn pz) ∧ M' 24 = some (aJ G 2160 s2) ∧ M' 25 = some (aI G 6 (nF f2)) ∧ M' 27 = some (aJ G 3 d2) ∧ (∀ j : Nat, j ≠ 23 → j ≠ 24 → j ≠ 25 → j ≠ 27 → M' j = M j) ∧ ((∀ i, i < aa → gd (kQ kd fm to kn d) (tL rl en sz lst) lst ro te pn i n s2 f2) ∧ ∀ v, v < 3 → dmO uv aa nt s2 f2 v (d2 v)))) 0 0 (fr z) := by
  refine Met.ofW (cc := cX4_prepare) (maxL := 8) (ret := none) (by decide) rfl ?_
  intro p e s m args below meth c s₁ B hml hv
  obtain ⟨rfl, hv⟩ := hv
  have hI := Iv.entry hv
  have hx := B.exec
  have hb := B.bytes
  have hr := B.returns
  have hts := atoms_spec (ws := wsX4_prepare) B.pre
  have hown : s.vm.findClass RX4 = some m.cls := findClass_of_methodNamed B.named
  have hlocks := B.notSynchronized
  have f_31 := hts _ (List.mem_cons_of_mem _ (lwg_of t_220 rfl))
  have i_RX4 : ∀ w ∈ u_ws RX4 TX4 7, w ∈ wsX4_prepare := fun w h => List.mem_cons_of_mem _ (iu_X4 w h)
  have f_22 := hts _ (List.mem_cons_of_mem _ (lwg_of t_218 rfl))
  have f_15 := hts _ (List.mem_cons_of_mem _ (lwg_of t_216 rfl))
  have i_RX2 : ∀ w ∈ u_ws RX2 TX2 4, w ∈ wsX4_prepare := fun w h => List.mem_cons_of_mem _ (iu_X2 w h)
  have hl := lv_entry ([.ref (ad 23), .ref (ad qn), .ref (ad 16), .ref (ad 8), .int d]) (n := 8) (Nat.le_of_ble_eq_true rfl)
  rw [lg_entry_eq]
  generalize (lg_sl ([.ref (ad 23), .ref (ad qn), .ref (ad 16), .ref (ad 8), .int d]) ++ List.replicate (8 - (lg_sl ([.ref (ad 23), .ref (ad qn), .ref (ad 16), .ref (ad 8), .int d])).length) Slot.unset).toArray = ls at hl ⊢
  have hl : lv_has ls 8 [(0, .ref (ad 23)), (1, .ref (ad qn)), (2, .ref (ad 16)), (3, .ref (ad 8)), (4, .int d)] := hl
  refine w_q (fun Q hQ => ?_)
  have h16 := hL.1
  obtain ⟨mcn, ed, h17, hed⟩ := id hL.2.1
  have hw1 := hw.1
  refine lv_aload_n hx hb dX4_prepare_0 rfl (lv_at hl 0 rfl) ?_
  refine lv_aload_n hx hb dX4_prepare_1 rfl (lv_at hl 1 rfl) ?_
  refine h_put (C := RX4) (T := TX4) (N := 7) hx hb hts i_RX4 tyX4 tyX4_ok nmX4 hown hI h23 rfl 5 (by decide) f_31 rfl rfl rfl rfl (Nat.le_of_ble_eq_true rfl) dX4_prepare_2 (fun M_1 H_2 locs_3 eM_4 hI => ?_)
  have hm_5 : M_1 23 = some (cMatcher ad qn pz) := by rw [eM_4]; exact va_up_self _ _ _
  have hm_6 : M_1 24 = some (aJ G 2160 sx) := by rw [eM_4, va_up_ne _ _ (by decide)]; exact h24
  have hm_7 : M_1 25 = some (aI G 6 (nF ft)) := by rw [eM_4, va_up_ne _ _ (by decide)]; exact h25
  have hm_8 : M_1 27 = some (aJ G 3 dm) := by rw [eM_4, va_up_ne _ _ (by decide)]; exact h27
  have hm_9 : M_1 qn = some (cQuestion ad qn aa uv) := by rw [eM_4, va_up_ne _ _ (by omega)]; exact hk
  have hm_10 : M_1 (qn + 1) = some (aI G 6 (nF kn)) := by rw [eM_4, va_up_ne _ _ (by omega)]; exact q1
  have hm_11 : M_1 (qn + 2) = some (aZ G 6 (bF nt)) := by rw [eM_4, va_up_ne _ _ (by omega)]; exact q2
  have hm_12 : M_1 (qn + 3) = some (aI G 6 (nF pn)) := by rw [eM_4, va_up_ne _ _ (by omega)]; exact q3
  have hm_13 : M_1 (qn + 5) = some (aI G 24 (nF ro)) := by rw [eM_4, va_up_ne _ _ (by omega)]; exact q5
  have hm_14 : M_1 (qn + 6) = some (aI G 24 (nF te)) := by rw [eM_4, va_up_ne _ _ (by omega)]; exact q6
  have hm_15 : M_1 8 = some (cOnes ad jn) := by rw [eM_4, va_up_ne _ _ (by decide)]; exact h8
  have hm_16 : M_1 10 = some (aI G 40 (nF lst)) := by rw [eM_4, va_up_ne _ _ (by decide)]; exact h10
  have hm_17 : M_1 16 = some (cLines ad ) := by rw [eM_4, va_up_ne _ _ (by decide)]; exact h16
  have hm_18 : M_1 17 = some (cList ad mcn ed n) := by rw [eM_4, va_up_ne _ _ (by decide)]; exact h17
  have hL_19 : LSm G ad M_1 n kd fm to sz rl en := hL.keep (fun j hj => by rw [eM_4, va_up_ne _ _ (by omega)])
  have hF_20 : ∀ j : Nat, j ≠ 23 → M_1 j = M j := fun j q0 => by rw [eM_4, va_up_ne _ _ q0]
  refine lv_iconst (v := nI 0) hx hb dX4_prepare_5 (by decide) ?_
  refine lv_istore (lv' := [(5, .int (nI 0)), (0, .ref (ad 23)), (1, .ref (ad qn)), (2, .ref (ad 16)), (3, .ref (ad 8)), (4, .int d)]) hx hb dX4_prepare_6 hl (by decide) rfl (fun ls hl => ?_)
  have lp8_21 : ∀ (fuel : Nat) (i : Nat) (g : Nat → Int64) (h : Nat → Nat) (Mx : Mem) (Hx : Heap) (locsx : List Loc) (ls : Array Slot), (aa - i) < fuel → (i ≤ aa) → (∀ i9, i9 < i → gd (kQ kd fm to kn d) (tL rl en sz lst) lst ro te pn i9 n g h) → Iv G z ad Mx s Hx locsx → Mx 23 = some (cMatcher ad qn pz) → Mx 24 = some (aJ G 2160 g) → Mx 25 = some (aI G 6 (nF h)) → (∀ j : Nat, j ≠ 23 → j ≠ 24 → j ≠ 25 → Mx j = M j) → lv_has ls 8 [(0, .ref (ad 23)), (1, .ref (ad qn)), (2, .ref (ad 16)), (3, .ref (ad 8)), (4, .int d), (5, .int (nI i))] → W p l e (headSpec wsX4_prepare rm_c_X4_prepare).room s m ([.ref (ad 23), .ref (ad qn), .ref (ad 16), .ref (ad 8), .int d] : List Value).toArray below meth c Hx locsx 0 0 Q (F0 m 8 ls []) := by
    intro fuel
    induction fuel with
    | zero => intro i g h Mx Hx locsx ls hfu hi hG hI hm_22 hm_23 hm_24 hF_26 hl; exact absurd hfu (Nat.not_lt_zero _)
    | succ fuel ih_27 =>
      intro i g h Mx Hx locsx ls hfu hi hG hI hm_22 hm_23 hm_24 hF_26 hl
      have hm_28 : Mx 27 = some (aJ G 3 dm) := by rw [hF_26 27 (by omega) (by omega) (by omega)]; exact h27
      have hm_29 : Mx qn = some (cQuestion ad qn aa uv) := by rw [hF_26 qn (by omega) (by omega) (by omega)]; exact hk
      have hm_30 : Mx (qn + 1) = some (aI G 6 (nF kn)) := by rw [hF_26 (qn + 1) (by omega) (by omega) (by omega)]; exact q1
      have hm_31 : Mx (qn + 2) = some (aZ G 6 (bF nt)) := by rw [hF_26 (qn + 2) (by omega) (by omega) (by omega)]; exact q2
      have hm_32 : Mx (qn + 3) = some (aI G 6 (nF pn)) := by rw [hF_26 (qn + 3) (by omega) (by omega) (by omega)]; exact q3
      have hm_33 : Mx (qn + 5) = some (aI G 24 (nF ro)) := by rw [hF_26 (qn + 5) (by omega) (by omega) (by omega)]; exact q5
      have hm_34 : Mx (qn + 6) = some (aI G 24 (nF te)) := by rw [hF_26 (qn + 6) (by omega) (by omega) (by omega)]; exact q6
      have hm_35 : Mx 8 = some (cOnes ad jn) := by rw [hF_26 8 (by omega) (by omega) (by omega)]; exact h8
      have hm_36 : Mx 10 = some (aI G 40 (nF lst)) := by rw [hF_26 10 (by omega) (by omega) (by omega)]; exact h10
      have hm_37 : Mx 16 = some (cLines ad ) := by rw [hF_26 16 (by omega) (by omega) (by omega)]; exact h16
      have hm_38 : Mx 17 = some (cList ad mcn ed n) := by rw [hF_26 17 (by omega) (by omega) (by omega)]; exact h17
      have hL_39 : LSm G ad Mx n kd fm to sz rl en := hL.keep (fun j hj => hF_26 j (by omega) (by omega) (by omega))
      have hw1 := hw.1
      refine lv_iload hx hb dX4_prepare_8 (lv_at hl 5 rfl) ?_
      refine lv_aload_n hx hb dX4_prepare_10 rfl (lv_at hl 0 rfl) ?_
      refine h_get (C := RX4) (T := TX4) (N := 7) hx hb hts i_RX4 hown hI hm_22 rfl 5 (by decide) f_31 rfl rfl dX4_prepare_11 ?_
      refine k_Ri (va_runV (As := []) (rest := [.int (nI i)]) ⟨hx, hb, hml, hown, hts⟩ (c_X6_atoms l G z ad Mx (k := qn) (aa := aa) (uv := uv) hm_29) (cwV 0 hts (gV (lwg_of t_323 rfl) (lwg_of t_316 rfl) (lwg_of t_317 rfl) (lwg_of t_12 rfl) (lwg_of t_318 rfl)) rfl rfl rfl (by decide +kernel) ⟨Nat.le_of_ble_eq_true rfl, Nat.le_of_ble_eq_true rfl⟩) (hI.preV hm_29 rfl) rfl rfl hl.1 rfl (lv_room (Nat.le_of_ble_eq_true rfl)) dX4_prepare_14 ⟨Nat.le_of_ble_eq_true rfl, Nat.le_of_ble_eq_true rfl⟩) (fun _ h => h) (fun r_40 hp_41 => ?_)
      rw [hp_41]
      refine lv_icmp_ge (tgt := 99) hx hb dX4_prepare_17 (by decide) (fun c_42 => ?_) (fun c_42 => ?_)
      · -- 17: nI i ge
        have c_42 : aa ≤ i := (nI_leI (a := aa) (b := i) (by omega) (by omega)).mp (c_42)
        have hGf : ∀ i9, i9 < aa → gd (kQ kd fm to kn d) (tL rl en sz lst) lst ro te pn i9 n g h := fun i9 h9 => hG i9 (by omega)
        refine lv_iconst (v := nI 0) hx hb dX4_prepare_99 (by decide) ?_
        refine lv_istore (lv' := [(5, .int (nI 0)), (0, .ref (ad 23)), (1, .ref (ad qn)), (2, .ref (ad 16)), (3, .ref (ad 8)), (4, .int d)]) hx hb dX4_prepare_100 hl (by decide) rfl (fun ls hl => ?_)
        have lp102_43 : ∀ (fuel : Nat) (v : Nat) (dd : Nat → Int64) (Mx : Mem) (Hx : Heap) (locsx : List Loc) (ls : Array Slot), (3 - v) < fuel → (v ≤ 3) → (∀ v9, v9 < v → dmO uv aa nt g h v9 (dd v9)) → Iv G z ad Mx s Hx locsx → Mx 23 = some (cMatcher ad qn pz) → Mx 24 = some (aJ G 2160 g) → Mx 25 = some (aI G 6 (nF h)) → Mx 27 = some (aJ G 3 dd) → (∀ j : Nat, j ≠ 23 → j ≠ 24 → j ≠ 25 → j ≠ 27 → Mx j = M j) → lv_has ls 8 [(0, .ref (ad 23)), (1, .ref (ad qn)), (2, .ref (ad 16)), (3, .ref (ad 8)), (4, .int d), (5, .int (nI v))] → W p l e (headSpec wsX4_prepare rm_c_X4_prepare).room s m ([.ref (ad 23), .ref (ad qn), .ref (ad 16), .ref (ad 8), .int d] : List Value).toArray below meth c Hx locsx 0 0 Q (F0 m 102 ls []) := by
          intro fuel
          induction fuel with
          | zero => intro v dd Mx Hx locsx ls hfu hv3 hD hI hm_44 hm_45 hm_46 hm_47 hF_49 hl; exact absurd hfu (Nat.not_lt_zero _)
          | succ fuel ih_50 =>
            intro v dd Mx Hx locsx ls hfu hv3 hD hI hm_44 hm_45 hm_46 hm_47 hF_49 hl
            have hm_51 : Mx qn = some (cQuestion ad qn aa uv) := by rw [hF_49 qn (by omega) (by omega) (by omega) (by omega)]; exact hk
            have hm_52 : Mx (qn + 1) = some (aI G 6 (nF kn)) := by rw [hF_49 (qn + 1) (by omega) (by omega) (by omega) (by omega)]; exact q1
            have hm_53 : Mx (qn + 2) = some (aZ G 6 (bF nt)) := by rw [hF_49 (qn + 2) (by omega) (by omega) (by omega) (by omega)]; exact q2
            have hm_54 : Mx (qn + 3) = some (aI G 6 (nF pn)) := by rw [hF_49 (qn + 3) (by omega) (by omega) (by omega) (by omega)]; exact q3
            have hm_55 : Mx (qn + 5) = some (aI G 24 (nF ro)) := by rw [hF_49 (qn + 5) (by omega) (by omega) (by omega) (by omega)]; exact q5
            have hm_56 : Mx (qn + 6) = some (aI G 24 (nF te)) := by rw [hF_49 (qn + 6) (by omega) (by omega) (by omega) (by omega)]; exact q6
            have hm_57 : Mx 8 = some (cOnes ad jn) := by rw [hF_49 8 (by omega) (by omega) (by omega) (by omega)]; exact h8
            have hm_58 : Mx 10 = some (aI G 40 (nF lst)) := by rw [hF_49 10 (by omega) (by omega) (by omega) (by omega)]; exact h10
            have hm_59 : Mx 16 = some (cLines ad ) := by rw [hF_49 16 (by omega) (by omega) (by omega) (by omega)]; exact h16
            have hm_60 : Mx 17 = some (cList ad mcn ed n) := by rw [hF_49 17 (by omega) (by omega) (by omega) (by omega)]; exact h17
            have hL_61 : LSm G ad Mx n kd fm to sz rl en := hL.keep (fun j hj => hF_49 j (by omega) (by omega) (by omega) (by omega))
            refine lv_iload hx hb dX4_prepare_102 (lv_at hl 5 rfl) ?_
            refine lv_iconst (v := nI 3) hx hb dX4_prepare_104 (by decide) ?_
            refine lv_icmp_ge (tgt := 127) hx hb dX4_prepare_105 (by decide) (fun c_62 => ?_) (fun c_62 => ?_)
            · -- 105: nI v ge
              have c_62 : 3 ≤ v := (nI_leI (a := 3) (b := v) (by omega) (by omega)).mp (c_62)
              subst hQ
              exact e_Nv hx hb hr hlocks hI ⟨g, h, dd, hm_44, hm_45, hm_46, hm_47, (fun j q0 q1 q2 q3 => hF_49 j q0 q1 q2 q3), ⟨hGf, fun v9 h9 => hD v9 (by omega)⟩⟩ dX4_prepare_127
            · -- 105: nI v lt
              have c_62 : v < 3 := by have h := mt (nI_leI (a := 3) (b := v) (by omega) (by omega)).mpr c_62; omega
              have hfa : ∀ i9, i9 < aa → h i9 ≤ 120 := fun i9 h9 => Nat.le_trans (hGf i9 h9).1 hw1
              refine lv_aload_n hx hb dX4_prepare_108 rfl (lv_at hl 0 rfl) ?_
              refine h_get (C := RX4) (T := TX4) (N := 7) hx hb hts i_RX4 hown hI hm_44 rfl 3 (by decide) f_22 rfl rfl dX4_prepare_109 ?_
              refine lv_iload hx hb dX4_prepare_112 (lv_at hl 5 rfl) ?_
              refine lv_aload_n hx hb dX4_prepare_114 rfl (lv_at hl 0 rfl) ?_
              refine lv_iload hx hb dX4_prepare_115 (lv_at hl 5 rfl) ?_
              refine k_Rl (va_runV (As := [.int (nI v)]) (rest := [.int (nI v), .ref (ad 27)]) ⟨hx, hb, hml, hown, hts⟩ (c_X4_domain l G z ad Mx (qm := qn) (pz := pz) (aa := aa) (uv := uv) (nt := nt) (sx := g) (ft := h) (v := v) hm_44 hm_45 hm_46 hm_51 hm_53 (by omega) (by omega) (by omega) hfa) (cwV 1 hts (gV (lwg_of t_385 rfl) (lwg_of t_387 rfl) (lwg_of ts_2 rfl) (lwg_of t_11 rfl) (lwg_of t_388 rfl)) rfl rfl rfl (by decide +kernel) ⟨Nat.le_of_ble_eq_true rfl, Nat.le_of_ble_eq_true rfl⟩) (hI.preV hm_44 rfl) rfl rfl hl.1 rfl (lv_room (Nat.le_of_ble_eq_true rfl)) dX4_prepare_117 ⟨Nat.le_of_ble_eq_true rfl, Nat.le_of_ble_eq_true rfl⟩) (fun _ h => h) (fun r_63 hp_64 => ?_)
              refine h_last (i := v) (x := r_63) hx hb hI hm_47 (by omega) (by decide) dX4_prepare_120 (fun M_65 H_66 locs_67 eM_68 hI => ?_)
              have hm_69 : M_65 qn = some (cQuestion ad qn aa uv) := by rw [eM_68, va_up_ne _ _ (by omega)]; exact hm_51
              have hm_70 : M_65 (qn + 1) = some (aI G 6 (nF kn)) := by rw [eM_68, va_up_ne _ _ (by omega)]; exact hm_52
              have hm_71 : M_65 (qn + 2) = some (aZ G 6 (bF nt)) := by rw [eM_68, va_up_ne _ _ (by omega)]; exact hm_53
              have hm_72 : M_65 (qn + 3) = some (aI G 6 (nF pn)) := by rw [eM_68, va_up_ne _ _ (by omega)]; exact hm_54
              have hm_73 : M_65 (qn + 5) = some (aI G 24 (nF ro)) := by rw [eM_68, va_up_ne _ _ (by omega)]; exact hm_55
              have hm_74 : M_65 (qn + 6) = some (aI G 24 (nF te)) := by rw [eM_68, va_up_ne _ _ (by omega)]; exact hm_56
              have hm_75 : M_65 8 = some (cOnes ad jn) := by rw [eM_68, va_up_ne _ _ (by decide)]; exact hm_57
              have hm_76 : M_65 10 = some (aI G 40 (nF lst)) := by rw [eM_68, va_up_ne _ _ (by decide)]; exact hm_58
              have hm_77 : M_65 16 = some (cLines ad ) := by rw [eM_68, va_up_ne _ _ (by decide)]; exact hm_59
              have hm_78 : M_65 17 = some (cList ad mcn ed n) := by rw [eM_68, va_up_ne _ _ (by decide)]; exact hm_60
              have hm_79 : M_65 23 = some (cMatcher ad qn pz) := by rw [eM_68, va_up_ne _ _ (by decide)]; exact hm_44
              have hm_80 : M_65 24 = some (aJ G 2160 g) := by rw [eM_68, va_up_ne _ _ (by decide)]; exact hm_45
              have hm_81 : M_65 25 = some (aI G 6 (nF h)) := by rw [eM_68, va_up_ne _ _ (by decide)]; exact hm_46
              have hm_82 : M_65 27 = some (aJ G 3 (vp_updL dd v r_63)) := by rw [eM_68]; exact va_up_self _ _ _
              have hL_83 : LSm G ad M_65 n kd fm to sz rl en := hL_61.keep (fun j hj => by rw [eM_68, va_up_ne _ _ (by omega)])
              have hF_84 : ∀ j : Nat, j ≠ 23 → j ≠ 24 → j ≠ 25 → j ≠ 27 → M_65 j = M j := fun j q0 q1 q2 q3 => by rw [eM_68, va_up_ne _ _ q3]; exact hF_49 j q0 q1 q2 q3
              refine lv_iinc (v := nI (v + 1)) (lv' := [(5, .int (nI (v + 1))), (0, .ref (ad 23)), (1, .ref (ad qn)), (2, .ref (ad 16)), (3, .ref (ad 8)), (4, .int d)]) hx hb dX4_prepare_121 hl (k := 5) rfl (nI_add v 1) (by decide) rfl (fun ls hl => ?_)
              refine lv_goto (tgt := 102) hx hb dX4_prepare_124 (by decide) ?_
              exact ih_50 (v + 1) (vp_updL dd v r_63) M_65 H_66 locs_67 ls (by omega) (by omega) (lt_s2 (fun v9 h9 => by rw [updL_ne _ _ (by omega)]; exact hD v9 h9) (by rw [updL_self]; exact hp_64)) hI hm_79 hm_80 hm_81 hm_82 (fun j q0 q1 q2 q3 => hF_84 j q0 q1 q2 q3) (lv_sub hl [1, 2, 3, 4, 5, 0] rfl)
        exact lp102_43 ((3 - 0) + 1) 0 dm Mx Hx locsx ls (Nat.lt_succ_self _) (by omega) (fun j hj => absurd hj (Nat.not_lt_zero j)) hI hm_22 hm_23 hm_24 hm_28 (fun j q0 q1 q2 q3 => hF_26 j q0 q1 q2) (lv_sub hl [1, 2, 3, 4, 5, 0] rfl)
      · -- 17: nI i lt
        have c_42 : i < aa := by have h := mt (nI_leI (a := aa) (b := i) (by omega) (by omega)).mpr c_42; omega
        obtain ⟨hk6, hp4, hrt⟩ := hqw i (by omega)
        refine lv_aload_n hx hb dX4_prepare_20 rfl (lv_at hl 0 rfl) ?_
        refine h_get (C := RX4) (T := TX4) (N := 7) hx hb hts i_RX4 hown hI hm_22 rfl 1 (by decide) f_15 rfl rfl dX4_prepare_21 ?_
        refine lv_iload hx hb dX4_prepare_24 (lv_at hl 5 rfl) ?_
        refine lv_iconst (v := nI 0) hx hb dX4_prepare_26 (by decide) ?_
        refine h_iast (i := i) (x := nI 0) hx hb hI hm_24 (by omega) (by decide) dX4_prepare_27 (fun M_85 H_86 locs_87 eM_88 hI => ?_)
        rw [upd_nF] at eM_88
        have hm_89 : M_85 27 = some (aJ G 3 dm) := by rw [eM_88, va_up_ne _ _ (by decide)]; exact hm_28
        have hm_90 : M_85 qn = some (cQuestion ad qn aa uv) := by rw [eM_88, va_up_ne _ _ (by omega)]; exact hm_29
        have hm_91 : M_85 (qn + 1) = some (aI G 6 (nF kn)) := by rw [eM_88, va_up_ne _ _ (by omega)]; exact hm_30
        have hm_92 : M_85 (qn + 2) = some (aZ G 6 (bF nt)) := by rw [eM_88, va_up_ne _ _ (by omega)]; exact hm_31
        have hm_93 : M_85 (qn + 3) = some (aI G 6 (nF pn)) := by rw [eM_88, va_up_ne _ _ (by omega)]; exact hm_32
        have hm_94 : M_85 (qn + 5) = some (aI G 24 (nF ro)) := by rw [eM_88, va_up_ne _ _ (by omega)]; exact hm_33
        have hm_95 : M_85 (qn + 6) = some (aI G 24 (nF te)) := by rw [eM_88, va_up_ne _ _ (by omega)]; exact hm_34
        have hm_96 : M_85 8 = some (cOnes ad jn) := by rw [eM_88, va_up_ne _ _ (by decide)]; exact hm_35
        have hm_97 : M_85 10 = some (aI G 40 (nF lst)) := by rw [eM_88, va_up_ne _ _ (by decide)]; exact hm_36
        have hm_98 : M_85 16 = some (cLines ad ) := by rw [eM_88, va_up_ne _ _ (by decide)]; exact hm_37
        have hm_99 : M_85 17 = some (cList ad mcn ed n) := by rw [eM_88, va_up_ne _ _ (by decide)]; exact hm_38
        have hm_100 : M_85 23 = some (cMatcher ad qn pz) := by rw [eM_88, va_up_ne _ _ (by decide)]; exact hm_22
        have hm_101 : M_85 24 = some (aJ G 2160 g) := by rw [eM_88, va_up_ne _ _ (by decide)]; exact hm_23
        have hm_102 : M_85 25 = some (aI G 6 (nF (va_up h i 0))) := by rw [eM_88]; exact va_up_self _ _ _
        have hL_103 : LSm G ad M_85 n kd fm to sz rl en := hL_39.keep (fun j hj => by rw [eM_88, va_up_ne _ _ (by omega)])
        have hF_104 : ∀ j : Nat, j ≠ 23 → j ≠ 24 → j ≠ 25 → M_85 j = M j := fun j q0 q1 q2 => by rw [eM_88, va_up_ne _ _ q2]; exact hF_26 j q0 q1 q2
        refine lv_iconst (v := nI 0) hx hb dX4_prepare_28 (by decide) ?_
        refine lv_istore (lv' := [(6, .int (nI 0)), (0, .ref (ad 23)), (1, .ref (ad qn)), (2, .ref (ad 16)), (3, .ref (ad 8)), (4, .int d), (5, .int (nI i))]) hx hb dX4_prepare_29 hl (by decide) rfl (fun ls hl => ?_)
        have lp31_105 : ∀ (fuel : Nat) (lm : Nat) (g2 : Nat → Int64) (h2 : Nat → Nat) (Mx : Mem) (Hx : Heap) (locsx : List Loc) (ls : Array Slot), (n - lm) < fuel → (lm ≤ n) → (∀ i9, i9 < i → gd (kQ kd fm to kn d) (tL rl en sz lst) lst ro te pn i9 n g2 h2) → (gd (kQ kd fm to kn d) (tL rl en sz lst) lst ro te pn i lm g2 h2) → Iv G z ad Mx s Hx locsx → Mx 23 = some (cMatcher ad qn pz) → Mx 24 = some (aJ G 2160 g2) → Mx 25 = some (aI G 6 (nF h2)) → (∀ j : Nat, j ≠ 23 → j ≠ 24 → j ≠ 25 → Mx j = M j) → lv_has ls 8 [(0, .ref (ad 23)), (1, .ref (ad qn)), (2, .ref (ad 16)), (3, .ref (ad 8)), (4, .int d), (5, .int (nI i)), (6, .int (nI lm))] → W p l e (headSpec wsX4_prepare rm_c_X4_prepare).room s m ([.ref (ad 23), .ref (ad qn), .ref (ad 16), .ref (ad 8), .int d] : List Value).toArray below meth c Hx locsx 0 0 Q (F0 m 31 ls []) := by
          intro fuel
          induction fuel with
          | zero => intro lm g2 h2 Mx Hx locsx ls hfu hlm hG2 hg2 hI hm_106 hm_107 hm_108 hF_110 hl; exact absurd hfu (Nat.not_lt_zero _)
          | succ fuel ih_111 =>
            intro lm g2 h2 Mx Hx locsx ls hfu hlm hG2 hg2 hI hm_106 hm_107 hm_108 hF_110 hl
            have hm_112 : Mx 27 = some (aJ G 3 dm) := by rw [hF_110 27 (by omega) (by omega) (by omega)]; exact h27
            have hm_113 : Mx qn = some (cQuestion ad qn aa uv) := by rw [hF_110 qn (by omega) (by omega) (by omega)]; exact hk
            have hm_114 : Mx (qn + 1) = some (aI G 6 (nF kn)) := by rw [hF_110 (qn + 1) (by omega) (by omega) (by omega)]; exact q1
            have hm_115 : Mx (qn + 2) = some (aZ G 6 (bF nt)) := by rw [hF_110 (qn + 2) (by omega) (by omega) (by omega)]; exact q2
            have hm_116 : Mx (qn + 3) = some (aI G 6 (nF pn)) := by rw [hF_110 (qn + 3) (by omega) (by omega) (by omega)]; exact q3
            have hm_117 : Mx (qn + 5) = some (aI G 24 (nF ro)) := by rw [hF_110 (qn + 5) (by omega) (by omega) (by omega)]; exact q5
            have hm_118 : Mx (qn + 6) = some (aI G 24 (nF te)) := by rw [hF_110 (qn + 6) (by omega) (by omega) (by omega)]; exact q6
            have hm_119 : Mx 8 = some (cOnes ad jn) := by rw [hF_110 8 (by omega) (by omega) (by omega)]; exact h8
            have hm_120 : Mx 10 = some (aI G 40 (nF lst)) := by rw [hF_110 10 (by omega) (by omega) (by omega)]; exact h10
            have hm_121 : Mx 16 = some (cLines ad ) := by rw [hF_110 16 (by omega) (by omega) (by omega)]; exact h16
            have hm_122 : Mx 17 = some (cList ad mcn ed n) := by rw [hF_110 17 (by omega) (by omega) (by omega)]; exact h17
            have hL_123 : LSm G ad Mx n kd fm to sz rl en := hL.keep (fun j hj => hF_110 j (by omega) (by omega) (by omega))
            have hw1 := hw.1
            have hgl := hg2.1
            refine lv_iload hx hb dX4_prepare_31 (lv_at hl 6 rfl) ?_
            refine lv_aload_n hx hb dX4_prepare_33 rfl (lv_at hl 2 rfl) ?_
            refine k_Ri (va_runV (As := []) (rest := [.int (nI lm)]) ⟨hx, hb, hml, hown, hts⟩ (c_X3_size l G z ad Mx (n := n) (kd := kd) (fm := fm) (to := to) (sz := sz) (rl := rl) (en := en) hL_123) (cwV 0 hts (gV (lwg_of t_324 rfl) (lwg_of t_325 rfl) (lwg_of t_326 rfl) (lwg_of t_6 rfl) (lwg_of t_327 rfl)) rfl rfl rfl (by decide +kernel) ⟨Nat.le_of_ble_eq_true rfl, Nat.le_of_ble_eq_true rfl⟩) (hI.preV hm_121 rfl) rfl rfl hl.1 rfl (lv_room (Nat.le_of_ble_eq_true rfl)) dX4_prepare_34 ⟨Nat.le_of_ble_eq_true rfl, Nat.le_of_ble_eq_true rfl⟩) (fun _ h => h) (fun r_124 hp_125 => ?_)
            rw [hp_125]
            refine lv_icmp_ge (tgt := 93) hx hb dX4_prepare_37 (by decide) (fun c_126 => ?_) (fun c_126 => ?_)
            · -- 37: nI lm ge
              have c_126 : n ≤ lm := (nI_leI (a := n) (b := lm) (by omega) (by omega)).mp (c_126)
              refine lv_iinc (v := nI (i + 1)) (lv' := [(5, .int (nI (i + 1))), (0, .ref (ad 23)), (1, .ref (ad qn)), (2, .ref (ad 16)), (3, .ref (ad 8)), (4, .int d), (6, .int (nI lm))]) hx hb dX4_prepare_93 hl (k := 5) rfl (nI_add i 1) (by decide) rfl (fun ls hl => ?_)
              refine lv_goto (tgt := 8) hx hb dX4_prepare_96 (by decide) ?_
              exact ih_27 (i + 1) g2 h2 Mx Hx locsx ls (by omega) (by omega) (lt_s2 hG2 (by rw [show n = lm by omega]; exact hg2)) hI hm_106 hm_107 hm_108 (fun j q0 q1 q2 => hF_110 j q0 q1 q2) (lv_sub hl [1, 2, 3, 4, 5, 0] rfl)
            · -- 37: nI lm lt
              have c_126 : lm < n := by have h := mt (nI_leI (a := n) (b := lm) (by omega) (by omega)).mpr c_126; omega
              obtain ⟨hkq, hs6, hje⟩ := hw.2 lm (by omega)
              refine lv_aload_n hx hb dX4_prepare_40 rfl (lv_at hl 2 rfl) ?_
              refine lv_iload hx hb dX4_prepare_41 (lv_at hl 6 rfl) ?_
              refine k_Rq (va_runV (As := [.int (nI lm)]) (rest := []) ⟨hx, hb, hml, hown, hts⟩ (c_X3_get l G z ad Mx (n := n) (kd := kd) (fm := fm) (to := to) (sz := sz) (rl := rl) (en := en) (i := lm) hL_123 (by omega) (by omega)) (cwV 1 hts (gV (lwg_of t_332 rfl) (lwg_of t_333 rfl) (lwg_of t_334 rfl) (lwg_of t_6 rfl) (lwg_of t_335 rfl)) rfl rfl rfl (by decide +kernel) ⟨Nat.le_of_ble_eq_true rfl, Nat.le_of_ble_eq_true rfl⟩) (hI.preV hm_121 rfl) rfl rfl hl.1 rfl (lv_room (Nat.le_of_ble_eq_true rfl)) dX4_prepare_43 ⟨Nat.le_of_ble_eq_true rfl, Nat.le_of_ble_eq_true rfl⟩) (fun _ h => h) (fun r_127 hp_128 => ?_)
              rw [hp_128]; show W _ _ _ _ _ _ _ _ _ _ _ _ _ _ _ (F0 m 46 ls (.ref (ad (100 + 5 * lm)) :: []))
              refine lv_astore (lv' := [(7, .ref (ad (100 + 5 * lm))), (0, .ref (ad 23)), (1, .ref (ad qn)), (2, .ref (ad 16)), (3, .ref (ad 8)), (4, .int d), (5, .int (nI i)), (6, .int (nI lm))]) hx hb dX4_prepare_46 hl (by decide) rfl (fun ls hl => ?_)
              refine lv_aload hx hb dX4_prepare_48 (lv_at hl 0 rfl) ?_
              refine h_getN (C := RX2) (T := TX2) (N := 4) hx hb hts i_RX2 hown hI (hL_123.2.2 lm (by omega)).1 rfl 0 (by decide) (nwf_at (i := 10) (q := ("LineStore$Matcher", 48, "LineStore$Line", "kind", "I", "LineStore")) hI rfl) rfl rfl dX4_prepare_50 ?_
              refine lv_aload_n hx hb dX4_prepare_53 rfl (lv_at hl 1 rfl) ?_
              refine h_get (C := RX4) (T := TX4) (N := 7) hx hb hts i_RX4 hown hI hm_106 rfl 5 (by decide) f_31 rfl rfl dX4_prepare_54 ?_
              refine lv_iload hx hb dX4_prepare_57 (lv_at hl 6 rfl) ?_
              refine k_Ri (va_runV (As := [.int (nI i)]) (rest := [.int (nI (kd lm))]) ⟨hx, hb, hml, hown, hts⟩ (c_X6_kind l G z ad Mx (k := qn) (aa := aa) (uv := uv) (kn := kn) (i := i) hm_113 hm_114 (by omega)) (cwV 1 hts (gV (lwg_of t_351 rfl) (lwg_of t_352 rfl) (lwg_of t_353 rfl) (lwg_of t_12 rfl) (lwg_of t_354 rfl)) rfl rfl rfl (by decide +kernel) ⟨Nat.le_of_ble_eq_true rfl, Nat.le_of_ble_eq_true rfl⟩) (hI.preV hm_113 rfl) rfl rfl hl.1 rfl (lv_room (Nat.le_of_ble_eq_true rfl)) dX4_prepare_59 ⟨Nat.le_of_ble_eq_true rfl, Nat.le_of_ble_eq_true rfl⟩) (fun _ h => h) (fun r_129 hp_130 => ?_)
              rw [hp_130]
              refine lv_icmp_ne (tgt := 87) hx hb dX4_prepare_62 (by decide) (fun c_131 => ?_) (fun c_131 => ?_)
              · -- 62: nI (kd lm) ne
                have c_131 : (kd lm) ≠ kn i := by have h := mt (nI_eq (a := (kd lm)) (b := kn i) (by omega) (by omega)).mpr c_131; omega
                refine lv_iinc (v := nI (lm + 1)) (lv' := [(6, .int (nI (lm + 1))), (7, .ref (ad (100 + 5 * lm))), (0, .ref (ad 23)), (1, .ref (ad qn)), (2, .ref (ad 16)), (3, .ref (ad 8)), (4, .int d), (5, .int (nI i))]) hx hb dX4_prepare_87 hl (k := 7) rfl (nI_add lm 1) (by decide) rfl (fun ls hl => ?_)
                refine lv_goto (tgt := 31) hx hb dX4_prepare_90 (by decide) ?_
                exact ih_111 (lm + 1) g2 h2 Mx Hx locsx ls (by omega) (by omega) (hG2) (gd_skip hg2 (fun h => absurd h.1 (by assumption))) hI hm_106 hm_107 hm_108 (fun j q0 q1 q2 => hF_110 j q0 q1 q2) (lv_sub hl [2, 3, 4, 5, 6, 7, 0] rfl)
              · -- 62: nI (kd lm) eq
                have c_131 : (kd lm) = kn i := (nI_eq (a := (kd lm)) (b := kn i) (by omega) (by omega)).mp (c_131)
                refine lv_aload hx hb dX4_prepare_65 (lv_at hl 0 rfl) ?_
                refine lv_iload hx hb dX4_prepare_67 (lv_at hl 5 rfl) ?_
                refine k_Ri (va_runV (As := [.int d]) (rest := []) ⟨hx, hb, hml, hown, hts⟩ (c_X2_isInForce l G z ad Mx (k := 100 + 5 * lm) (kd := kd lm) (fm := fm lm) (to := to lm) (d := d) (hL_123.2.2 lm (by omega)).1) (cwV 1 hts (gV (lwg_of t_355 rfl) (lwg_of t_356 rfl) (lwg_of t_357 rfl) (lwg_of t_21 rfl) (lwg_of t_358 rfl)) rfl rfl rfl (by decide +kernel) ⟨Nat.le_of_ble_eq_true rfl, Nat.le_of_ble_eq_true rfl⟩) (hI.preV (hL_123.2.2 lm (by omega)).1 rfl) rfl rfl hl.1 rfl (lv_room (Nat.le_of_ble_eq_true rfl)) dX4_prepare_69 ⟨Nat.le_of_ble_eq_true rfl, Nat.le_of_ble_eq_true rfl⟩) (fun _ h => h) (fun r_132 hp_133 => ?_)
                rw [hp_133]
                refine lv_if_eq (tgt := 87) hx hb dX4_prepare_72 (by decide) (fun c_134 => ?_) (fun c_134 => ?_)
                · -- 72: bI (decide ((fm lm) ≤ d ∧ d ≤ (to lm))) eq
                  have c_134 : decide ((fm lm) ≤ d ∧ d ≤ (to lm)) = false := bI_f (c_134)
                  refine lv_iinc (v := nI (lm + 1)) (lv' := [(6, .int (nI (lm + 1))), (7, .ref (ad (100 + 5 * lm))), (0, .ref (ad 23)), (1, .ref (ad qn)), (2, .ref (ad 16)), (3, .ref (ad 8)), (4, .int d), (5, .int (nI i))]) hx hb dX4_prepare_87 hl (k := 7) rfl (nI_add lm 1) (by decide) rfl (fun ls hl => ?_)
                  refine lv_goto (tgt := 31) hx hb dX4_prepare_90 (by decide) ?_
                  exact ih_111 (lm + 1) g2 h2 Mx Hx locsx ls (by omega) (by omega) (hG2) (gd_skip hg2 (fun h => absurd h.2 (by simp_all))) hI hm_106 hm_107 hm_108 (fun j q0 q1 q2 => hF_110 j q0 q1 q2) (lv_sub hl [2, 3, 4, 5, 6, 7, 0] rfl)
                · -- 72: bI (decide ((fm lm) ≤ d ∧ d ≤ (to lm))) ne
                  have c_134 : decide ((fm lm) ≤ d ∧ d ≤ (to lm)) = true := bI_t (c_134)
                  refine lv_aload_n hx hb dX4_prepare_75 rfl (lv_at hl 1 rfl) ?_
                  refine lv_iload hx hb dX4_prepare_76 (lv_at hl 6 rfl) ?_
                  refine lv_aload hx hb dX4_prepare_78 (lv_at hl 0 rfl) ?_
                  refine h_getN (C := RX2) (T := TX2) (N := 4) hx hb hts i_RX2 hown hI (hL_123.2.2 lm (by omega)).1 rfl 3 (by decide) (nwf_at (i := 11) (q := ("LineStore$Matcher", 61, "LineStore$Line", "ends", "LLineStore$Ends;", "LineStore")) hI rfl) rfl rfl dX4_prepare_80 ?_
                  refine lv_aload_n hx hb dX4_prepare_83 rfl (lv_at hl 4 rfl) ?_
                  refine k_Nv (va_runV (As := [.int (nI i), .ref (ad (100 + 5 * lm + 1)), .ref (ad 8)]) (rest := []) ⟨hx, hb, hml, hown, hts⟩ (c_X4_addIfFits l G z ad Mx (n := n) (kd := kd) (fm := fm) (to := to) (sz := sz) (rl := rl) (en := en) (qm := qn) (pz := pz) (aa := aa) (uv := uv) (jn := jn) (lst := lst) (pn := pn) (ro := ro) (te := te) (sx := g2) (ft := h2) (i := i) (q := lm) hL_123 hm_106 hm_107 hm_108 hm_113 hm_116 hm_117 hm_118 hm_119 hm_120 hw (by omega) (by omega) (by omega) (by omega) hrt (by omega) hlst) (cwV 3 hts (gV (lwg_of t_359 rfl) (lwg_of t_361 rfl) (lwg_of ts_1 rfl) (lwg_of t_11 rfl) (lwg_of t_362 rfl)) rfl rfl rfl (by decide +kernel) ⟨Nat.le_of_ble_eq_true rfl, Nat.le_of_ble_eq_true rfl⟩) (hI.preV hm_106 rfl) rfl rfl hl.1 rfl (lv_room (Nat.le_of_ble_eq_true rfl)) dX4_prepare_84 ⟨Nat.le_of_ble_eq_true rfl, Nat.le_of_ble_eq_true rfl⟩) hI (fun M_137 H_138 locs_139 hp_136 hI => ?_)
                  obtain ⟨s2_144, f2_145, hm_140, hm_141, hF_142, hP_143⟩ := hp_136
                  have hm_146 : M_137 27 = some (aJ G 3 dm) := by rw [hF_142 27 (by omega) (by omega)]; exact hm_112
                  have hm_147 : M_137 qn = some (cQuestion ad qn aa uv) := by rw [hF_142 qn (by omega) (by omega)]; exact hm_113
                  have hm_148 : M_137 (qn + 1) = some (aI G 6 (nF kn)) := by rw [hF_142 (qn + 1) (by omega) (by omega)]; exact hm_114
                  have hm_149 : M_137 (qn + 2) = some (aZ G 6 (bF nt)) := by rw [hF_142 (qn + 2) (by omega) (by omega)]; exact hm_115
                  have hm_150 : M_137 (qn + 3) = some (aI G 6 (nF pn)) := by rw [hF_142 (qn + 3) (by omega) (by omega)]; exact hm_116
                  have hm_151 : M_137 (qn + 5) = some (aI G 24 (nF ro)) := by rw [hF_142 (qn + 5) (by omega) (by omega)]; exact hm_117
                  have hm_152 : M_137 (qn + 6) = some (aI G 24 (nF te)) := by rw [hF_142 (qn + 6) (by omega) (by omega)]; exact hm_118
                  have hm_153 : M_137 8 = some (cOnes ad jn) := by rw [hF_142 8 (by omega) (by omega)]; exact hm_119
                  have hm_154 : M_137 10 = some (aI G 40 (nF lst)) := by rw [hF_142 10 (by omega) (by omega)]; exact hm_120
                  have hm_155 : M_137 16 = some (cLines ad ) := by rw [hF_142 16 (by omega) (by omega)]; exact hm_121
                  have hm_156 : M_137 17 = some (cList ad mcn ed n) := by rw [hF_142 17 (by omega) (by omega)]; exact hm_122
                  have hm_157 : M_137 23 = some (cMatcher ad qn pz) := by rw [hF_142 23 (by omega) (by omega)]; exact hm_106
                  have hL_158 : LSm G ad M_137 n kd fm to sz rl en := hL_123.keep (fun j hj => hF_142 j (by omega) (by omega))
                  have hF_159 : ∀ j : Nat, j ≠ 23 → j ≠ 24 → j ≠ 25 → M_137 j = M j := fun j q0 q1 q2 => (hF_142 j q1 q2).trans (hF_110 j q0 q1 q2)
                  refine lv_iinc (v := nI (lm + 1)) (lv' := [(6, .int (nI (lm + 1))), (7, .ref (ad (100 + 5 * lm))), (0, .ref (ad 23)), (1, .ref (ad qn)), (2, .ref (ad 16)), (3, .ref (ad 8)), (4, .int d), (5, .int (nI i))]) hx hb dX4_prepare_87 hl (k := 7) rfl (nI_add lm 1) (by decide) rfl (fun ls hl => ?_)
                  refine lv_goto (tgt := 31) hx hb dX4_prepare_90 (by decide) ?_
                  exact ih_111 (lm + 1) s2_144 f2_145 M_137 H_138 locs_139 ls (by omega) (by omega) (fun i9 h9 => gd_old (X := ¬ FF (tL rl en sz lst lm) lst ro te pn i) (hG2 i9 h9) h9 (by omega) (hP_143.1.imp id (fun h => ⟨h.1, trivial⟩)) hP_143.2) (gd_add hg2 ⟨by assumption, by assumption⟩ hP_143) hI hm_157 hm_140 hm_141 (fun j q0 q1 q2 => hF_159 j q0 q1 q2) (lv_sub hl [2, 3, 4, 5, 6, 7, 0] rfl)
        exact lp31_105 ((n - 0) + 1) 0 g (va_up h i 0) M_85 H_86 locs_87 ls (Nat.lt_succ_self _) (by omega) (fun i9 h9 => gd_keep (hG i9 h9) (va_up_ne _ _ (by omega)) (fun _ _ _ _ => rfl)) (gd_0 (va_up_self _ _ _)) hI hm_100 hm_101 hm_102 (fun j q0 q1 q2 => hF_104 j q0 q1 q2) (lv_sub hl [1, 2, 3, 4, 5, 6, 0] rfl)
  exact lp8_21 ((aa - 0) + 1) 0 sx ft M_1 H_2 locs_3 ls (Nat.lt_succ_self _) (by omega) (fun j hj => absurd hj (Nat.not_lt_zero j)) hI hm_5 hm_6 hm_7 (fun j q0 q1 q2 => hF_20 j q0) (lv_sub hl [1, 2, 3, 4, 5, 0] rfl)
