theorem oI_lt_of {o : Option Nat} {q : Nat} (h : oK o) (hq : q < 2 ^ 31) : oI o < nI q ↔ ∀ u, o = some u → u < q := by
  cases o with
  | none =>
    refine ⟨fun _ u e => (by cases e), fun _ => ?_⟩
    rw [Int32.lt_iff_toInt_lt, nI_toInt hq]
    have : (oI none).toInt = -1 := by decide
    omega
  | some t =>
    have := h t rfl
    show nI t < nI q ↔ _
    rw [nI_ltI (by omega) hq]
    exact ⟨fun e u eu => by cases eu; exact e, fun e => e t rfl⟩
theorem oI_nlt_of {o : Option Nat} {q : Nat} (h : oK o) (hq : q < 2 ^ 31) (hn : ¬ oI o < nI q) : ∃ u, o = some u ∧ q ≤ u := by
  cases o with
  | none => exact absurd ((oI_lt_of h hq).mpr (fun u e => by cases e)) hn
  | some t =>
    refine ⟨t, rfl, ?_⟩
    by_cases ht : t < q
    · exact absurd ((oI_lt_of h hq).mpr (fun u e => by cases e; exact ht)) hn
    · omega
def lnk (en : Nat → Nat → Nat) (l : Nat) (p : Nat → Bool) (m : Nat) : Bool := (List.range m).any (fun e => match olE (en l) e with | some u => p u | none => false)
theorem lnk_iff {en : Nat → Nat → Nat} {l : Nat} {p : Nat → Bool} {m : Nat} : lnk en l p m = true ↔ ∃ e, e < m ∧ ∃ u, olE (en l) e = some u ∧ p u = true := by
  simp only [lnk, List.any_eq_true, List.mem_range]
  constructor
  · rintro ⟨e, h1, h2⟩
    cases h : olE (en l) e with
    | none => rw [h] at h2; cases h2
    | some u => rw [h] at h2; exact ⟨e, h1, u, h, h2⟩
  · rintro ⟨e, h1, u, h2, h3⟩
    exact ⟨e, h1, by rw [h2]; exact h3⟩
theorem bool_ext {a b : Bool} (h : a = true ↔ b = true) : a = b := by cases a <;> cases b <;> simp_all
theorem lnk_congr {en : Nat → Nat → Nat} {l : Nat} {p p' : Nat → Bool} {m : Nat} (h : ∀ e, e < m → ∀ u, olE (en l) e = some u → p u = p' u) : lnk en l p m = lnk en l p' m := by
  apply bool_ext
  rw [lnk_iff, lnk_iff]
  constructor
  · rintro ⟨e, h1, u, h2, h3⟩; exact ⟨e, h1, u, h2, by rw [← h e h1 u h2]; exact h3⟩
  · rintro ⟨e, h1, u, h2, h3⟩; exact ⟨e, h1, u, h2, by rw [h e h1 u h2]; exact h3⟩
theorem lnk_no {en : Nat → Nat → Nat} {l : Nat} {p : Nat → Bool} {m : Nat} (h : ∀ u, olE (en l) m = some u → p u = false) : lnk en l p (m + 1) = lnk en l p m := by
  apply bool_ext
  rw [lnk_iff, lnk_iff]
  constructor
  · rintro ⟨e, h1, u, h2, h3⟩
    by_cases he : e = m
    · subst he; rw [h u h2] at h3; cases h3
    · exact ⟨e, by omega, u, h2, h3⟩
  · rintro ⟨e, h1, h2⟩; exact ⟨e, by omega, h2⟩
theorem lnk_yes {en : Nat → Nat → Nat} {l : Nat} {p : Nat → Bool} {m u : Nat} (h : olE (en l) m = some u) (hp : p u = true) : lnk en l p (m + 1) = true := lnk_iff.mpr ⟨m, by omega, u, h, hp⟩
section ST
variable {fm to : Nat → Int32} {sz : Nat → Nat} {en : Nat → Nat → Nat} {q : Nat} {d : Int32}
/-- which lines a strike of q on d strikes -/
def stkF (fm to : Nat → Int32) (sz : Nat → Nat) (en : Nat → Nat → Nat) (q : Nat) (d : Int32) : Nat → Nat → Bool
  | 0, _ => false
  | m + 1, l => if l = m then (decide (m = q) || (decide (q < m) && (decide (fm m ≤ to m ∧ d ≤ to m) && lnk en m (fun u => decide (q ≤ u) && stkF fm to sz en q d m u) (sz m)))) else stkF fm to sz en q d m l
def stk (fm to : Nat → Int32) (sz : Nat → Nat) (en : Nat → Nat → Nat) (q : Nat) (d : Int32) (l : Nat) : Bool := stkF fm to sz en q d (l + 1) l
theorem stkF_un {m l : Nat} (h : l < m) : stkF fm to sz en q d m l = stk fm to sz en q d l := by
  induction m with
  | zero => exact absurd h (Nat.not_lt_zero l)
  | succ m ih =>
    by_cases e : l = m
    · subst e; rfl
    · rw [stkF, if_neg e]; exact ih (by omega)
abbrev pS (fm to : Nat → Int32) (sz : Nat → Nat) (en : Nat → Nat → Nat) (q : Nat) (d : Int32) (u : Nat) : Bool := decide (q ≤ u) && stk fm to sz en q d u
theorem stk_eq {l : Nat} (he : ∀ e, e < sz l → en l e < 40 + l ∧ en l e < 1000) : stk fm to sz en q d l = (decide (l = q) || (decide (q < l) && (decide (fm l ≤ to l ∧ d ≤ to l) && lnk en l (pS fm to sz en q d) (sz l)))) := by
  rw [stk, stkF, if_pos rfl, lnk_congr (p' := pS fm to sz en q d)]
  intro e h1 u h2
  have h4 := he e h1
  have h3 := olE_some h4.2 h2
  rw [stkF_un (by omega)]
theorem stk_q (he : ∀ e, e < sz q → en q e < 40 + q ∧ en q e < 1000) : stk fm to sz en q d q = true := by rw [stk_eq he]; simp
theorem stk_no {l : Nat} (he : ∀ e, e < sz l → en l e < 40 + l ∧ en l e < 1000) (h1 : l ≠ q) (h2 : decide (fm l ≤ to l ∧ d ≤ to l) = false) : stk fm to sz en q d l = false := by rw [stk_eq he, h2]; simp [h1]
theorem stk_ln {l : Nat} (he : ∀ e, e < sz l → en l e < 40 + l ∧ en l e < 1000) (h1 : q < l) (h2 : decide (fm l ≤ to l ∧ d ≤ to l) = true) : stk fm to sz en q d l = lnk en l (pS fm to sz en q d) (sz l) := by
  rw [stk_eq he, h2, decide_eq_true h1, decide_eq_false (by omega : ¬ l = q)]; simp
theorem pS_f {u : Nat} (h : stk fm to sz en q d u = false) : pS fm to sz en q d u = false := by simp [pS, h]
theorem pS_lt {u : Nat} (h : u < q) : pS fm to sz en q d u = false := by simp [pS, Nat.not_le.mpr h]
theorem pS_t {u : Nat} (h1 : q ≤ u) (h : stk fm to sz en q d u = true) : pS fm to sz en q d u = true := by simp [pS, h, h1]
/-- a line that would be struck is held by l -/
def hld (kd : Nat → Nat) (ho : Nat → Bool) (fm to : Nat → Int32) (sz : Nat → Nat) (en : Nat → Nat → Nat) (q : Nat) (d : Int32) (l : Nat) : Prop := q < l ∧ decide (fm l ≤ to l ∧ d ≤ to l) = true ∧ ∃ e, e < sz l ∧ ∃ u, olE (en l) e = some u ∧ q ≤ u ∧ stk fm to sz en q d u = true ∧ ho (kd u) = true
end ST
theorem lt_s3 {i q : Nat} {P : Nat → Prop} (h : ∀ l, q ≤ l → l < i → P l) (hi : P i) : ∀ l, q ≤ l → l < i + 1 → P l := fun l h1 h2 => (Nat.lt_succ_iff_lt_or_eq.mp h2).elim (h l h1) (fun e => e ▸ hi)
theorem mk_up {mx f : Nat → Bool} {q i : Nat} {v : Bool} (h : ∀ l, q ≤ l → l < i → mx l = f l) (hv : v = f i) : ∀ l, q ≤ l → l < i + 1 → va_up mx i v l = f l := fun l h1 h2 => by
  by_cases e : l = i
  · subst e; rw [va_up_self]; exact hv
  · rw [va_up_ne _ _ e]; exact h l h1 (by omega)

/-- X3_markStruck -/
abbrev rm_c_X3_markStruck : Room := { frames := 3, cells := 0, slots := 0, locals := 64 }
set_option maxHeartbeats 4000000 in
set_option maxRecDepth 100000 in
theorem c_X3_markStruck (l : Launch) (G : GG) (z : Nat) (ad : Nat → Nat) (M : Mem) {n : Nat} {kd : Nat → Nat} {fm : Nat → Int32} {to : Nat → Int32} {sz : Nat → Nat} {rl : Nat → Nat → Nat} {en : Nat → Nat → Nat} {ho : Nat → Bool} {mk : Nat → Bool} {q : Nat} {d : Int32} (hL : LSm G ad M n kd fm to sz rl en) (h3 : M 3 = some (cLaws ad )) (h7 : M 7 = some (aZ G 6 (bF ho))) (h19 : M 19 = some (aZ G 120 (bF mk))) (hw : LSw n kd sz rl en) (hq : q < n) : Met l yX3_markStruck wsX3_markStruck rm_c_X3_markStruck (Pr G z ad M [.ref (ad 16), .int (nI q), .int d, .ref (ad 3)]) (Ni G z ad (fun (r : Int32) (M' : Mem) => ∃ b : Bool, ∃ mk2 : Nat → Bool, M' 19 = some (aZ G 120 (bF mk2)) ∧ (∀ j : Nat, j ≠ 19 → M' j = M j) ∧ (r = bI b ∧ (b = true ↔ ∀ l, l < n → ¬ hld kd ho fm to sz en q d l) ∧ (b = true → ∀ l, q ≤ l → l < n → mk2 l = stk fm to sz en q d l)))) 0 0 (fr z) := by
  refine Met.ofW (cc := cX3_markStruck) (maxL := 8) (ret := (some .boolean)) (by decide) rfl ?_
  intro p e s m args below meth c s₁ B hml hv
  obtain ⟨rfl, hv⟩ := hv
  have hI := Iv.entry hv
  have hx := B.exec
  have hb := B.bytes
  have hr := B.returns
  have hts := atoms_spec (ws := wsX3_markStruck) B.pre
  have hown : s.vm.findClass RX3 = some m.cls := findClass_of_methodNamed B.named
  have hlocks := B.notSynchronized
  have i_RX3 : ∀ w ∈ u_ws RX3 TX3 4, w ∈ wsX3_markStruck := fun w h => List.mem_cons_of_mem _ (iu_X3 w h)
  have f_12 := hts _ (List.mem_cons_of_mem _ (lwg_of t_145 rfl))
  have f_18 := hts _ (List.mem_cons_of_mem _ (lwg_of t_146 rfl))
  have cl_37 := hts _ (List.mem_cons_of_mem _ (lwg_of t_350 rfl))
  have i_RX2 : ∀ w ∈ u_ws RX2 TX2 4, w ∈ wsX3_markStruck := fun w h => List.mem_cons_of_mem _ (iu_X2 w h)
  have hl := lv_entry ([.ref (ad 16), .int (nI q), .int d, .ref (ad 3)]) (n := 8) (Nat.le_of_ble_eq_true rfl)
  rw [lg_entry_eq]
  generalize (lg_sl ([.ref (ad 16), .int (nI q), .int d, .ref (ad 3)]) ++ List.replicate (8 - (lg_sl ([.ref (ad 16), .int (nI q), .int d, .ref (ad 3)])).length) Slot.unset).toArray = ls at hl ⊢
  have hl : lv_has ls 8 [(0, .ref (ad 16)), (1, .int (nI q)), (2, .int d), (3, .ref (ad 3))] := hl
  refine w_q (fun Q hQ => ?_)
  have h16 := hL.1
  obtain ⟨mcn, ed, h17, hed⟩ := id hL.2.1
  have hw1 := hw.1
  refine lv_iload_n hx hb dX3_markStruck_0 rfl (lv_at hl 1 rfl) ?_
  refine lv_istore (lv' := [(4, .int (nI q)), (0, .ref (ad 16)), (1, .int (nI q)), (2, .int d), (3, .ref (ad 3))]) hx hb dX3_markStruck_1 hl (by decide) rfl (fun ls hl => ?_)
  have lp3_1 : ∀ (fuel : Nat) (i : Nat) (mx : Nat → Bool) (Mx : Mem) (Hx : Heap) (locsx : List Loc) (ls : Array Slot), (n - i) < fuel → (q ≤ i ∧ i ≤ n) → (∀ l, q ≤ l → l < i → mx l = stk fm to sz en q d l) → (∀ l, l < i → ¬ hld kd ho fm to sz en q d l) → Iv G z ad Mx s Hx locsx → Mx 19 = some (aZ G 120 (bF mx)) → (∀ j : Nat, j ≠ 19 → Mx j = M j) → lv_has ls 8 [(0, .ref (ad 16)), (1, .int (nI q)), (2, .int d), (3, .ref (ad 3)), (4, .int (nI i))] → W p l e (headSpec wsX3_markStruck rm_c_X3_markStruck).room s m ([.ref (ad 16), .int (nI q), .int d, .ref (ad 3)] : List Value).toArray below meth c Hx locsx 0 0 Q (F0 m 3 ls []) := by
    intro fuel
    induction fuel with
    | zero => intro i mx Mx Hx locsx ls hfu hi hmk hno hI hm_2 hF_4 hl; exact absurd hfu (Nat.not_lt_zero _)
    | succ fuel ih_5 =>
      intro i mx Mx Hx locsx ls hfu hi hmk hno hI hm_2 hF_4 hl
      have hm_6 : Mx 3 = some (cLaws ad ) := by rw [hF_4 3 (by omega)]; exact h3
      have hm_7 : Mx 7 = some (aZ G 6 (bF ho)) := by rw [hF_4 7 (by omega)]; exact h7
      have hm_8 : Mx 16 = some (cLines ad ) := by rw [hF_4 16 (by omega)]; exact h16
      have hm_9 : Mx 17 = some (cList ad mcn ed n) := by rw [hF_4 17 (by omega)]; exact h17
      have hL_10 : LSm G ad Mx n kd fm to sz rl en := hL.keep (fun j hj => hF_4 j (by omega))
      have hw1 := hw.1
      refine lv_iload hx hb dX3_markStruck_3 (lv_at hl 4 rfl) ?_
      refine lv_aload_n hx hb dX3_markStruck_5 rfl (lv_at hl 0 rfl) ?_
      refine h_get (C := RX3) (T := TX3) (N := 4) hx hb hts i_RX3 hown hI hm_8 rfl 0 (by decide) f_12 rfl rfl dX3_markStruck_6 ?_
      refine k_Ri (va_runV (As := []) (rest := [.int (nI i)]) ⟨hx, hb, hml, hown, hts⟩ (c_Jx4a65c_size_8abf5 l G z ad Mx (n := n) hL_10.2.1) (cwV 0 hts (gV (lwg_of t_328 rfl) (lwg_of t_329 rfl) (lwg_of t_330 rfl) (lwg_of t_9 rfl) (lwg_of t_331 rfl)) rfl rfl rfl (by decide +kernel) ⟨Nat.le_of_ble_eq_true rfl, Nat.le_of_ble_eq_true rfl⟩) (hI.preV hm_9 rfl) rfl rfl hl.1 rfl (lv_room (Nat.le_of_ble_eq_true rfl)) dX3_markStruck_9 ⟨Nat.le_of_ble_eq_true rfl, Nat.le_of_ble_eq_true rfl⟩) (fun _ h => h) (fun r_11 hp_12 => ?_)
      rw [hp_12]
      refine lv_icmp_ge (tgt := 156) hx hb dX3_markStruck_12 (by decide) (fun c_13 => ?_) (fun c_13 => ?_)
      · -- 12: nI i ge
        have c_13 : n ≤ i := (nI_leI (a := n) (b := i) (by omega) (by omega)).mp (c_13)
        refine lv_iconst (v := nI 1) hx hb dX3_markStruck_156 (by decide) ?_
        subst hQ
        exact e_Ni hx hb hr rfl hlocks hI ⟨true, mx, hm_2, (fun j q0 => hF_4 j q0), ⟨rfl, ⟨fun _ l hl => hno l (by omega), fun _ => rfl⟩, fun _ l h1 h2 => hmk l h1 (by omega)⟩⟩ dX3_markStruck_157
      · -- 12: nI i lt
        have c_13 : i < n := by have h := mt (nI_leI (a := n) (b := i) (by omega) (by omega)).mpr c_13; omega
        have hw1 := hw.1
        obtain ⟨hk6, hs6, hje⟩ := hw.2 i (by omega)
        refine lv_aload_n hx hb dX3_markStruck_15 rfl (lv_at hl 0 rfl) ?_
        refine h_get (C := RX3) (T := TX3) (N := 4) hx hb hts i_RX3 hown hI hm_8 rfl 1 (by decide) f_18 rfl rfl dX3_markStruck_16 ?_
        refine lv_iload hx hb dX3_markStruck_19 (lv_at hl 4 rfl) ?_
        refine lv_iload hx hb dX3_markStruck_21 (lv_at hl 4 rfl) ?_
        refine lv_iload_n hx hb dX3_markStruck_23 rfl (lv_at hl 1 rfl) ?_
        refine lv_icmp_ne (tgt := 31) hx hb dX3_markStruck_24 (by decide) (fun c_14 => ?_) (fun c_14 => ?_)
        · -- 24: nI i ne
          have c_14 : i ≠ q := by have h := mt (nI_eq (a := i) (b := q) (by omega) (by omega)).mpr c_14; omega
          refine lv_iconst (v := nI 0) hx hb dX3_markStruck_31 (by decide) ?_
          refine h_zast (i := i) (x := nI 0) hx hb hI hm_2 (by omega) (by decide) rfl dX3_markStruck_32 (fun M_15 H_16 locs_17 eM_18 hI => ?_)
          rw [upd_bF_0] at eM_18
          have hm_19 : M_15 3 = some (cLaws ad ) := by rw [eM_18, va_up_ne _ _ (by omega)]; exact hm_6
          have hm_20 : M_15 7 = some (aZ G 6 (bF ho)) := by rw [eM_18, va_up_ne _ _ (by omega)]; exact hm_7
          have hm_21 : M_15 16 = some (cLines ad ) := by rw [eM_18, va_up_ne _ _ (by omega)]; exact hm_8
          have hm_22 : M_15 17 = some (cList ad mcn ed n) := by rw [eM_18, va_up_ne _ _ (by omega)]; exact hm_9
          have hm_23 : M_15 19 = some (aZ G 120 (bF (va_up mx i false))) := by rw [eM_18]; exact va_up_self _ _ _
          have hL_24 : LSm G ad M_15 n kd fm to sz rl en := hL_10.keep (fun j hj => by rw [eM_18, va_up_ne _ _ (by omega)])
          have hF_25 : ∀ j : Nat, j ≠ 19 → M_15 j = M j := fun j q0 => by rw [eM_18, va_up_ne _ _ q0]; exact hF_4 j q0
          refine lv_aload_n hx hb dX3_markStruck_33 rfl (lv_at hl 0 rfl) ?_
          refine h_get (C := RX3) (T := TX3) (N := 4) hx hb hts i_RX3 hown hI hm_21 rfl 0 (by decide) f_12 rfl rfl dX3_markStruck_34 ?_
          refine lv_iload hx hb dX3_markStruck_37 (lv_at hl 4 rfl) ?_
          refine k_Rq (va_runV (As := [.int (nI i)]) (rest := []) ⟨hx, hb, hml, hown, hts⟩ (c_Jx4a65c_get_915e3 l G z ad M_15 (n := n) (i := i) hL_24.2.1 (by omega) (by omega)) (cwV 1 hts (gV (lwg_of t_336 rfl) (lwg_of t_337 rfl) (lwg_of t_338 rfl) (lwg_of t_9 rfl) (lwg_of t_339 rfl)) rfl rfl rfl (by decide +kernel) ⟨Nat.le_of_ble_eq_true rfl, Nat.le_of_ble_eq_true rfl⟩) (hI.preV hm_22 rfl) rfl rfl hl.1 rfl (lv_room (Nat.le_of_ble_eq_true rfl)) dX3_markStruck_39 ⟨Nat.le_of_ble_eq_true rfl, Nat.le_of_ble_eq_true rfl⟩) (fun _ h => h) (fun r_26 hp_27 => ?_)
          rw [hp_27]; show W _ _ _ _ _ _ _ _ _ _ _ _ _ _ _ (F0 m 42 ls (.ref (ad (100 + 5 * i)) :: []))
          refine h_cast (q := (RX2, TX2, 4)) hx hb hown cl_37 hI (hL_24.2.2 i (by omega)).1 rfl dX3_markStruck_42 ?_
          refine lv_astore (lv' := [(5, .ref (ad (100 + 5 * i))), (0, .ref (ad 16)), (1, .int (nI q)), (2, .int d), (3, .ref (ad 3)), (4, .int (nI i))]) hx hb dX3_markStruck_45 hl (by decide) rfl (fun ls hl => ?_)
          refine lv_iload hx hb dX3_markStruck_47 (lv_at hl 5 rfl) ?_
          refine lv_iload_n hx hb dX3_markStruck_49 rfl (lv_at hl 2 rfl) ?_
          refine lv_icmp_eq (tgt := 150) hx hb dX3_markStruck_50 (by decide) (fun c_28 => ?_) (fun c_28 => ?_)
          · -- 50: nI i eq
            have c_28 : i = q := (nI_eq (a := i) (b := q) (by omega) (by omega)).mp (c_28)
            omega
          · -- 50: nI i ne
            have c_28 : i ≠ q := by have h := mt (nI_eq (a := i) (b := q) (by omega) (by omega)).mpr c_28; omega
            refine lv_aload hx hb dX3_markStruck_53 (lv_at hl 0 rfl) ?_
            refine lv_iload_n hx hb dX3_markStruck_55 rfl (lv_at hl 3 rfl) ?_
            refine k_Ri (va_runV (As := [.int d]) (rest := []) ⟨hx, hb, hml, hown, hts⟩ (c_X2_isInForceOnOrAfter l G z ad M_15 (k := 100 + 5 * i) (kd := kd i) (fm := fm i) (to := to i) (d := d) (hL_24.2.2 i (by omega)).1) (cwV 1 hts (gV (lwg_of t_826 rfl) (lwg_of t_827 rfl) (lwg_of t_828 rfl) (lwg_of t_21 rfl) (lwg_of t_829 rfl)) rfl rfl rfl (by decide +kernel) ⟨Nat.le_of_ble_eq_true rfl, Nat.le_of_ble_eq_true rfl⟩) (hI.preV (hL_24.2.2 i (by omega)).1 rfl) rfl rfl hl.1 rfl (lv_room (Nat.le_of_ble_eq_true rfl)) dX3_markStruck_56 ⟨Nat.le_of_ble_eq_true rfl, Nat.le_of_ble_eq_true rfl⟩) (fun _ h => h) (fun r_29 hp_30 => ?_)
            rw [hp_30]
            refine lv_if_ne (tgt := 65) hx hb dX3_markStruck_59 (by decide) (fun c_31 => ?_) (fun c_31 => ?_)
            · -- 59: bI (decide ((fm i) ≤ (to i) ∧ d ≤ (to i))) ne
              have c_31 : decide ((fm i) ≤ (to i) ∧ d ≤ (to i)) = true := bI_t (c_31)
              refine lv_iconst (v := nI 0) hx hb dX3_markStruck_65 (by decide) ?_
              refine lv_istore (lv' := [(6, .int (nI 0)), (5, .ref (ad (100 + 5 * i))), (0, .ref (ad 16)), (1, .int (nI q)), (2, .int d), (3, .ref (ad 3)), (4, .int (nI i))]) hx hb dX3_markStruck_66 hl (by decide) rfl (fun ls hl => ?_)
              have lp68_32 : ∀ (fuel : Nat) (ei : Nat) (my : Nat → Bool) (Mx : Mem) (Hx : Heap) (locsx : List Loc) (ls : Array Slot), (sz i - ei) < fuel → (ei ≤ sz i) → (∀ l, q ≤ l → l < i → my l = stk fm to sz en q d l) → (my i = lnk en i (pS fm to sz en q d) ei) → (∀ e', e' < ei → ∀ u, olE (en i) e' = some u → q ≤ u → stk fm to sz en q d u = true → ho (kd u) = false) → Iv G z ad Mx s Hx locsx → Mx 19 = some (aZ G 120 (bF my)) → (∀ j : Nat, j ≠ 19 → Mx j = M j) → lv_has ls 8 [(0, .ref (ad 16)), (1, .int (nI q)), (2, .int d), (3, .ref (ad 3)), (4, .int (nI i)), (5, .ref (ad (100 + 5 * i))), (6, .int (nI ei))] → W p l e (headSpec wsX3_markStruck rm_c_X3_markStruck).room s m ([.ref (ad 16), .int (nI q), .int d, .ref (ad 3)] : List Value).toArray below meth c Hx locsx 0 0 Q (F0 m 68 ls []) := by
                intro fuel
                induction fuel with
                | zero => intro ei my Mx Hx locsx ls hfu he hmy hmi hnh hI hm_33 hF_35 hl; exact absurd hfu (Nat.not_lt_zero _)
                | succ fuel ih_36 =>
                  intro ei my Mx Hx locsx ls hfu he hmy hmi hnh hI hm_33 hF_35 hl
                  have hm_37 : Mx 3 = some (cLaws ad ) := by rw [hF_35 3 (by omega)]; exact h3
                  have hm_38 : Mx 7 = some (aZ G 6 (bF ho)) := by rw [hF_35 7 (by omega)]; exact h7
                  have hm_39 : Mx 16 = some (cLines ad ) := by rw [hF_35 16 (by omega)]; exact h16
                  have hm_40 : Mx 17 = some (cList ad mcn ed n) := by rw [hF_35 17 (by omega)]; exact h17
                  have hL_41 : LSm G ad Mx n kd fm to sz rl en := hL.keep (fun j hj => hF_35 j (by omega))
                  refine lv_iload hx hb dX3_markStruck_68 (lv_at hl 6 rfl) ?_
                  refine lv_aload hx hb dX3_markStruck_70 (lv_at hl 5 rfl) ?_
                  refine h_getN (C := RX2) (T := TX2) (N := 4) hx hb hts i_RX2 hown hI (hL_41.2.2 i (by omega)).1 rfl 3 (by decide) (nwf_at (i := 6) (q := ("LineStore$Lines", 43, "LineStore$Line", "ends", "LLineStore$Ends;", "LineStore")) hI rfl) rfl rfl dX3_markStruck_72 ?_
                  refine k_Ri (va_runV (As := []) (rest := [.int (nI ei)]) ⟨hx, hb, hml, hown, hts⟩ (c_X0_size l G z ad Mx (k := 100 + 5 * i + 1) (sz := sz i) (hL_41.2.2 i (by omega)).2.1) (cwV 0 hts (gV (lwg_of t_702 rfl) (lwg_of t_451 rfl) (lwg_of t_452 rfl) (lwg_of t_5 rfl) (lwg_of t_453 rfl)) rfl rfl rfl (by decide +kernel) ⟨Nat.le_of_ble_eq_true rfl, Nat.le_of_ble_eq_true rfl⟩) (hI.preV (hL_41.2.2 i (by omega)).2.1 rfl) rfl rfl hl.1 rfl (lv_room (Nat.le_of_ble_eq_true rfl)) dX3_markStruck_75 ⟨Nat.le_of_ble_eq_true rfl, Nat.le_of_ble_eq_true rfl⟩) (fun _ h => h) (fun r_42 hp_43 => ?_)
                  rw [hp_43]
                  refine lv_icmp_ge (tgt := 150) hx hb dX3_markStruck_78 (by decide) (fun c_44 => ?_) (fun c_44 => ?_)
                  · -- 78: nI ei ge
                    have c_44 : (sz i) ≤ ei := (nI_leI (a := (sz i)) (b := ei) (by omega) (by omega)).mp (c_44)
                    refine lv_iinc (v := nI (i + 1)) (lv' := [(4, .int (nI (i + 1))), (0, .ref (ad 16)), (1, .int (nI q)), (2, .int d), (3, .ref (ad 3)), (5, .ref (ad (100 + 5 * i))), (6, .int (nI ei))]) hx hb dX3_markStruck_150 hl (k := 4) rfl (nI_add i 1) (by decide) rfl (fun ls hl => ?_)
                    refine lv_goto (tgt := 3) hx hb dX3_markStruck_153 (by decide) ?_
                    exact ih_5 (i + 1) my Mx Hx locsx ls (by omega) (by omega) (lt_s3 hmy (by rw [hmi, show ei = sz i by omega]; exact (stk_ln (fun e he => by have := (hje e he).2; omega) (by omega) (by assumption)).symm)) (lt_s2 hno (fun h => by obtain ⟨_, _, e9, h1, u, h2, h3, h4, h5⟩ := h; rw [hnh e9 (by omega) u h2 h3 h4] at h5; cases h5)) hI hm_33 (fun j q0 => hF_35 j q0) (lv_sub hl [1, 2, 3, 4, 0] rfl)
                  · -- 78: nI ei lt
                    have c_44 : ei < (sz i) := by have h := mt (nI_leI (a := (sz i)) (b := ei) (by omega) (by omega)).mpr c_44; omega
                    have hok9 : oK (olE (en i) ei) := olE_ok (b := i) (by omega) (fun j hj => (hje j hj).2) ei (by omega)
                    refine lv_aload hx hb dX3_markStruck_81 (lv_at hl 5 rfl) ?_
                    refine h_getN (C := RX2) (T := TX2) (N := 4) hx hb hts i_RX2 hown hI (hL_41.2.2 i (by omega)).1 rfl 3 (by decide) (nwf_at (i := 6) (q := ("LineStore$Lines", 43, "LineStore$Line", "ends", "LLineStore$Ends;", "LineStore")) hI rfl) rfl rfl dX3_markStruck_83 ?_
                    refine lv_iload hx hb dX3_markStruck_86 (lv_at hl 6 rfl) ?_
                    refine k_Ri (va_runV (As := [.int (nI ei)]) (rest := []) ⟨hx, hb, hml, hown, hts⟩ (c_X0_line l G z ad Mx (k := 100 + 5 * i + 1) (sz := sz i) (ol := (olE (en i))) (i := ei) (hL_41.2.2 i (by omega)).2.1 (hL_41.2.2 i (by omega)).2.2.2.2 (by omega)) (cwV 1 hts (gV (lwg_of t_703 rfl) (lwg_of t_704 rfl) (lwg_of t_705 rfl) (lwg_of t_5 rfl) (lwg_of t_706 rfl)) rfl rfl rfl (by decide +kernel) ⟨Nat.le_of_ble_eq_true rfl, Nat.le_of_ble_eq_true rfl⟩) (hI.preV (hL_41.2.2 i (by omega)).2.1 rfl) rfl rfl hl.1 rfl (lv_room (Nat.le_of_ble_eq_true rfl)) dX3_markStruck_88 ⟨Nat.le_of_ble_eq_true rfl, Nat.le_of_ble_eq_true rfl⟩) (fun _ h => h) (fun r_45 hp_46 => ?_)
                    rw [hp_46]
                    refine lv_istore (lv' := [(7, .int (oI ((olE (en i)) ei))), (0, .ref (ad 16)), (1, .int (nI q)), (2, .int d), (3, .ref (ad 3)), (4, .int (nI i)), (5, .ref (ad (100 + 5 * i))), (6, .int (nI ei))]) hx hb dX3_markStruck_91 hl (by decide) rfl (fun ls hl => ?_)
                    refine lv_iload hx hb dX3_markStruck_93 (lv_at hl 0 rfl) ?_
                    refine lv_iload_n hx hb dX3_markStruck_95 rfl (lv_at hl 2 rfl) ?_
                    refine lv_icmp_lt (tgt := 144) hx hb dX3_markStruck_96 (by decide) (fun c_47 => ?_) (fun c_47 => ?_)
                    · -- 96: oI ((olE (en i)) ei) lt
                      have c_47 : ∀ u, (olE (en i)) ei = some u → u < q := (oI_lt_of (by assumption) (by omega)).mp c_47
                      refine lv_iinc (v := nI (ei + 1)) (lv' := [(6, .int (nI (ei + 1))), (7, .int (oI ((olE (en i)) ei))), (0, .ref (ad 16)), (1, .int (nI q)), (2, .int d), (3, .ref (ad 3)), (4, .int (nI i)), (5, .ref (ad (100 + 5 * i)))]) hx hb dX3_markStruck_144 hl (k := 7) rfl (nI_add ei 1) (by decide) rfl (fun ls hl => ?_)
                      refine lv_goto (tgt := 68) hx hb dX3_markStruck_147 (by decide) ?_
                      exact ih_36 (ei + 1) my Mx Hx locsx ls (by omega) (by omega) (hmy) (by rw [lnk_no (fun u hu => pS_lt ((by assumption : ∀ u, olE (en i) ei = some u → u < q) u hu))]; exact hmi) (lt_s2 hnh (fun u hu h1 => absurd ((by assumption : ∀ u, olE (en i) ei = some u → u < q) u hu) (by omega))) hI hm_33 (fun j q0 => hF_35 j q0) (lv_sub hl [2, 3, 4, 5, 6, 7, 0] rfl)
                    · -- 96: oI ((olE (en i)) ei) ge
                      obtain ⟨c_47_u, c_47_e, c_47_q⟩ : ∃ u, (olE (en i)) ei = some u ∧ q ≤ u := oI_nlt_of (by assumption) (by omega) c_47
                      obtain ⟨u, hu9, hqu⟩ : ∃ u, olE (en i) ei = some u ∧ q ≤ u := ⟨_, by assumption, by assumption⟩
                      have hu7 := (hje ei (by omega)).2
                      have hu8 := olE_some (by omega) hu9
                      have hmu := hmy u hqu (by omega)
                      refine lv_aload_n hx hb dX3_markStruck_99 rfl (lv_at hl 1 rfl) ?_
                      refine h_get (C := RX3) (T := TX3) (N := 4) hx hb hts i_RX3 hown hI hm_39 rfl 1 (by decide) f_18 rfl rfl dX3_markStruck_100 ?_
                      refine lv_iload hx hb dX3_markStruck_103 (lv_at hl 0 rfl) ?_
                      refine n_eq (show _ = nI u from by show oI (olE (en i) ei) = _; rw [hu9]; rfl) ?_
                      refine h_zald (i := u) hx hb hI hm_33 (by omega) (by decide) dX3_markStruck_105 ?_
                      refine lv_if_ne (tgt := 112) hx hb dX3_markStruck_106 (by decide) (fun c_48 => ?_) (fun c_48 => ?_)
                      · -- 106: bI (my u) ne
                        have c_48 : my u = true := bI_t (c_48)
                        refine lv_aload_n hx hb dX3_markStruck_112 rfl (lv_at hl 4 rfl) ?_
                        refine lv_aload_n hx hb dX3_markStruck_113 rfl (lv_at hl 1 rfl) ?_
                        refine h_get (C := RX3) (T := TX3) (N := 4) hx hb hts i_RX3 hown hI hm_39 rfl 0 (by decide) f_12 rfl rfl dX3_markStruck_114 ?_
                        refine lv_iload hx hb dX3_markStruck_117 (lv_at hl 0 rfl) ?_
                        refine n_eq (show _ = nI u from by show oI (olE (en i) ei) = _; rw [hu9]; rfl) ?_
                        refine k_Rq (va_runV (As := [.int (nI u)]) (rest := [.ref (ad 3)]) ⟨hx, hb, hml, hown, hts⟩ (c_Jx4a65c_get_915e3 l G z ad Mx (n := n) (i := u) hL_41.2.1 (by omega) (by omega)) (cwV 1 hts (gV (lwg_of t_336 rfl) (lwg_of t_337 rfl) (lwg_of t_338 rfl) (lwg_of t_9 rfl) (lwg_of t_339 rfl)) rfl rfl rfl (by decide +kernel) ⟨Nat.le_of_ble_eq_true rfl, Nat.le_of_ble_eq_true rfl⟩) (hI.preV hm_40 rfl) rfl rfl hl.1 rfl (lv_room (Nat.le_of_ble_eq_true rfl)) dX3_markStruck_119 ⟨Nat.le_of_ble_eq_true rfl, Nat.le_of_ble_eq_true rfl⟩) (fun _ h => h) (fun r_49 hp_50 => ?_)
                        rw [hp_50]; show W _ _ _ _ _ _ _ _ _ _ _ _ _ _ _ (F0 m 122 ls (.ref (ad (100 + 5 * u)) :: [.ref (ad 3)]))
                        refine h_cast (q := (RX2, TX2, 4)) hx hb hown cl_37 hI (hL_41.2.2 u (by omega)).1 rfl dX3_markStruck_122 ?_
                        refine h_getN (C := RX2) (T := TX2) (N := 4) hx hb hts i_RX2 hown hI (hL_41.2.2 u (by omega)).1 rfl 0 (by decide) (nwf_at (i := 9) (q := ("LineStore$Lines", 75, "LineStore$Line", "kind", "I", "LineStore")) hI rfl) rfl rfl dX3_markStruck_125 ?_
                        refine k_Ri (va_runV (As := [.int (nI (kd u))]) (rest := []) ⟨hx, hb, hml, hown, hts⟩ (c_X1_isHolding l G z ad Mx (ho := ho) (kd := (kd u)) hm_37 hm_38 (hw.2 u (by omega)).1) (cwV 1 hts (gV (lwg_of t_830 rfl) (lwg_of t_831 rfl) (lwg_of t_832 rfl) (lwg_of t_3 rfl) (lwg_of t_833 rfl)) rfl rfl rfl (by decide +kernel) ⟨Nat.le_of_ble_eq_true rfl, Nat.le_of_ble_eq_true rfl⟩) (hI.preV hm_37 rfl) rfl rfl hl.1 rfl (lv_room (Nat.le_of_ble_eq_true rfl)) dX3_markStruck_128 ⟨Nat.le_of_ble_eq_true rfl, Nat.le_of_ble_eq_true rfl⟩) (fun _ h => h) (fun r_51 hp_52 => ?_)
                        rw [hp_52]
                        refine lv_if_eq (tgt := 136) hx hb dX3_markStruck_131 (by decide) (fun c_53 => ?_) (fun c_53 => ?_)
                        · -- 131: bI (ho (kd u)) eq
                          have c_53 : ho (kd u) = false := bI_f (c_53)
                          refine lv_aload_n hx hb dX3_markStruck_136 rfl (lv_at hl 1 rfl) ?_
                          refine h_get (C := RX3) (T := TX3) (N := 4) hx hb hts i_RX3 hown hI hm_39 rfl 1 (by decide) f_18 rfl rfl dX3_markStruck_137 ?_
                          refine lv_iload hx hb dX3_markStruck_140 (lv_at hl 5 rfl) ?_
                          refine lv_iconst (v := nI 1) hx hb dX3_markStruck_142 (by decide) ?_
                          refine h_zast (i := i) (x := nI 1) hx hb hI hm_33 (by omega) (by decide) rfl dX3_markStruck_143 (fun M_54 H_55 locs_56 eM_57 hI => ?_)
                          rw [upd_bF_1] at eM_57
                          have hm_58 : M_54 3 = some (cLaws ad ) := by rw [eM_57, va_up_ne _ _ (by omega)]; exact hm_37
                          have hm_59 : M_54 7 = some (aZ G 6 (bF ho)) := by rw [eM_57, va_up_ne _ _ (by omega)]; exact hm_38
                          have hm_60 : M_54 16 = some (cLines ad ) := by rw [eM_57, va_up_ne _ _ (by omega)]; exact hm_39
                          have hm_61 : M_54 17 = some (cList ad mcn ed n) := by rw [eM_57, va_up_ne _ _ (by omega)]; exact hm_40
                          have hm_62 : M_54 19 = some (aZ G 120 (bF (va_up my i true))) := by rw [eM_57]; exact va_up_self _ _ _
                          have hL_63 : LSm G ad M_54 n kd fm to sz rl en := hL_41.keep (fun j hj => by rw [eM_57, va_up_ne _ _ (by omega)])
                          have hF_64 : ∀ j : Nat, j ≠ 19 → M_54 j = M j := fun j q0 => by rw [eM_57, va_up_ne _ _ q0]; exact hF_35 j q0
                          refine lv_iinc (v := nI (ei + 1)) (lv' := [(6, .int (nI (ei + 1))), (7, .int (oI ((olE (en i)) ei))), (0, .ref (ad 16)), (1, .int (nI q)), (2, .int d), (3, .ref (ad 3)), (4, .int (nI i)), (5, .ref (ad (100 + 5 * i)))]) hx hb dX3_markStruck_144 hl (k := 7) rfl (nI_add ei 1) (by decide) rfl (fun ls hl => ?_)
                          refine lv_goto (tgt := 68) hx hb dX3_markStruck_147 (by decide) ?_
                          exact ih_36 (ei + 1) (va_up my i true) M_54 H_55 locs_56 ls (by omega) (by omega) (fun l h1 h2 => by rw [va_up_ne _ _ (by omega)]; exact hmy l h1 h2) (by rw [va_up_self]; exact (lnk_yes hu9 (pS_t hqu (by rw [← hmu]; assumption))).symm) (lt_s2 hnh (fun v hv h1 h2 => by rw [hu9] at hv; cases hv; assumption)) hI hm_62 (fun j q0 => hF_64 j q0) (lv_sub hl [2, 3, 4, 5, 6, 7, 0] rfl)
                        · -- 131: bI (ho (kd u)) ne
                          have c_53 : ho (kd u) = true := bI_t (c_53)
                          refine lv_iconst (v := nI 0) hx hb dX3_markStruck_134 (by decide) ?_
                          subst hQ
                          exact e_Ni hx hb hr rfl hlocks hI ⟨false, my, hm_33, (fun j q0 => hF_35 j q0), ⟨rfl, ⟨fun h => absurd h Bool.false_ne_true, fun h => absurd ⟨by omega, by assumption, ei, by omega, u, hu9, hqu, by rw [← hmu]; assumption, by assumption⟩ (h i (by omega))⟩, fun h => absurd h Bool.false_ne_true⟩⟩ dX3_markStruck_135
                      · -- 106: bI (my u) eq
                        have c_48 : my u = false := bI_f (c_48)
                        refine lv_goto (tgt := 144) hx hb dX3_markStruck_109 (by decide) ?_
                        refine lv_iinc (v := nI (ei + 1)) (lv' := [(6, .int (nI (ei + 1))), (7, .int (oI ((olE (en i)) ei))), (0, .ref (ad 16)), (1, .int (nI q)), (2, .int d), (3, .ref (ad 3)), (4, .int (nI i)), (5, .ref (ad (100 + 5 * i)))]) hx hb dX3_markStruck_144 hl (k := 7) rfl (nI_add ei 1) (by decide) rfl (fun ls hl => ?_)
                        refine lv_goto (tgt := 68) hx hb dX3_markStruck_147 (by decide) ?_
                        exact ih_36 (ei + 1) my Mx Hx locsx ls (by omega) (by omega) (hmy) (by rw [lnk_no (fun v hv => by rw [hu9] at hv; cases hv; exact pS_f (by rw [← hmu]; assumption))]; exact hmi) (lt_s2 hnh (fun v hv h1 h2 => by rw [hu9] at hv; cases hv; rw [← hmu, show my u = false by assumption] at h2; cases h2)) hI hm_33 (fun j q0 => hF_35 j q0) (lv_sub hl [2, 3, 4, 5, 6, 7, 0] rfl)
              exact lp68_32 ((sz i - 0) + 1) 0 (va_up mx i false) M_15 H_16 locs_17 ls (Nat.lt_succ_self _) (by omega) (fun l h1 h2 => by rw [va_up_ne _ _ (by omega)]; exact hmk l h1 h2) (va_up_self _ _ _) (fun e' he' => absurd he' (Nat.not_lt_zero e')) hI hm_23 (fun j q0 => hF_25 j q0) (lv_sub hl [2, 3, 4, 5, 6, 1, 0] rfl)
            · -- 59: bI (decide ((fm i) ≤ (to i) ∧ d ≤ (to i))) eq
              have c_31 : decide ((fm i) ≤ (to i) ∧ d ≤ (to i)) = false := bI_f (c_31)
              refine lv_goto (tgt := 150) hx hb dX3_markStruck_62 (by decide) ?_
              refine lv_iinc (v := nI (i + 1)) (lv' := [(4, .int (nI (i + 1))), (5, .ref (ad (100 + 5 * i))), (0, .ref (ad 16)), (1, .int (nI q)), (2, .int d), (3, .ref (ad 3))]) hx hb dX3_markStruck_150 hl (k := 5) rfl (nI_add i 1) (by decide) rfl (fun ls hl => ?_)
              refine lv_goto (tgt := 3) hx hb dX3_markStruck_153 (by decide) ?_
              exact ih_5 (i + 1) (va_up mx i false) M_15 H_16 locs_17 ls (by omega) (by omega) (mk_up hmk (stk_no (fun e he => by have := (hje e he).2; omega) (by omega) (by assumption)).symm) (lt_s2 hno (fun h => by have h9 := h.2.1; rw [show decide (fm i ≤ to i ∧ d ≤ to i) = false by assumption] at h9; cases h9)) hI hm_23 (fun j q0 => hF_25 j q0) (lv_sub hl [2, 3, 4, 5, 0] rfl)
        · -- 24: nI i eq
          have c_14 : i = q := (nI_eq (a := i) (b := q) (by omega) (by omega)).mp (c_14)
          refine lv_iconst (v := nI 1) hx hb dX3_markStruck_27 (by decide) ?_
          refine lv_goto (tgt := 32) hx hb dX3_markStruck_28 (by decide) ?_
          refine h_zast (i := i) (x := nI 1) hx hb hI hm_2 (by omega) (by decide) rfl dX3_markStruck_32 (fun M_65 H_66 locs_67 eM_68 hI => ?_)
          rw [upd_bF_1] at eM_68
          have hm_69 : M_65 3 = some (cLaws ad ) := by rw [eM_68, va_up_ne _ _ (by omega)]; exact hm_6
          have hm_70 : M_65 7 = some (aZ G 6 (bF ho)) := by rw [eM_68, va_up_ne _ _ (by omega)]; exact hm_7
          have hm_71 : M_65 16 = some (cLines ad ) := by rw [eM_68, va_up_ne _ _ (by omega)]; exact hm_8
          have hm_72 : M_65 17 = some (cList ad mcn ed n) := by rw [eM_68, va_up_ne _ _ (by omega)]; exact hm_9
          have hm_73 : M_65 19 = some (aZ G 120 (bF (va_up mx i true))) := by rw [eM_68]; exact va_up_self _ _ _
          have hL_74 : LSm G ad M_65 n kd fm to sz rl en := hL_10.keep (fun j hj => by rw [eM_68, va_up_ne _ _ (by omega)])
          have hF_75 : ∀ j : Nat, j ≠ 19 → M_65 j = M j := fun j q0 => by rw [eM_68, va_up_ne _ _ q0]; exact hF_4 j q0
          refine lv_aload_n hx hb dX3_markStruck_33 rfl (lv_at hl 0 rfl) ?_
          refine h_get (C := RX3) (T := TX3) (N := 4) hx hb hts i_RX3 hown hI hm_71 rfl 0 (by decide) f_12 rfl rfl dX3_markStruck_34 ?_
          refine lv_iload hx hb dX3_markStruck_37 (lv_at hl 4 rfl) ?_
          refine k_Rq (va_runV (As := [.int (nI i)]) (rest := []) ⟨hx, hb, hml, hown, hts⟩ (c_Jx4a65c_get_915e3 l G z ad M_65 (n := n) (i := i) hL_74.2.1 (by omega) (by omega)) (cwV 1 hts (gV (lwg_of t_336 rfl) (lwg_of t_337 rfl) (lwg_of t_338 rfl) (lwg_of t_9 rfl) (lwg_of t_339 rfl)) rfl rfl rfl (by decide +kernel) ⟨Nat.le_of_ble_eq_true rfl, Nat.le_of_ble_eq_true rfl⟩) (hI.preV hm_72 rfl) rfl rfl hl.1 rfl (lv_room (Nat.le_of_ble_eq_true rfl)) dX3_markStruck_39 ⟨Nat.le_of_ble_eq_true rfl, Nat.le_of_ble_eq_true rfl⟩) (fun _ h => h) (fun r_76 hp_77 => ?_)
          rw [hp_77]; show W _ _ _ _ _ _ _ _ _ _ _ _ _ _ _ (F0 m 42 ls (.ref (ad (100 + 5 * i)) :: []))
          refine h_cast (q := (RX2, TX2, 4)) hx hb hown cl_37 hI (hL_74.2.2 i (by omega)).1 rfl dX3_markStruck_42 ?_
          refine lv_astore (lv' := [(5, .ref (ad (100 + 5 * i))), (0, .ref (ad 16)), (1, .int (nI q)), (2, .int d), (3, .ref (ad 3)), (4, .int (nI i))]) hx hb dX3_markStruck_45 hl (by decide) rfl (fun ls hl => ?_)
          refine lv_iload hx hb dX3_markStruck_47 (lv_at hl 5 rfl) ?_
          refine lv_iload_n hx hb dX3_markStruck_49 rfl (lv_at hl 2 rfl) ?_
          refine lv_icmp_eq (tgt := 150) hx hb dX3_markStruck_50 (by decide) (fun c_78 => ?_) (fun c_78 => ?_)
          · -- 50: nI i eq
            have c_78 : i = q := (nI_eq (a := i) (b := q) (by omega) (by omega)).mp (c_78)
            refine lv_iinc (v := nI (i + 1)) (lv' := [(4, .int (nI (i + 1))), (5, .ref (ad (100 + 5 * i))), (0, .ref (ad 16)), (1, .int (nI q)), (2, .int d), (3, .ref (ad 3))]) hx hb dX3_markStruck_150 hl (k := 5) rfl (nI_add i 1) (by decide) rfl (fun ls hl => ?_)
            refine lv_goto (tgt := 3) hx hb dX3_markStruck_153 (by decide) ?_
            exact ih_5 (i + 1) (va_up mx i true) M_65 H_66 locs_67 ls (by omega) (by omega) (mk_up hmk (by rw [show i = q by omega]; exact (stk_q (fun e he => by have := (hw.2 q hq).2.2 e he; omega)).symm)) (lt_s2 hno (fun h => absurd h.1 (by omega))) hI hm_73 (fun j q0 => hF_75 j q0) (lv_sub hl [2, 3, 4, 5, 0] rfl)
          · -- 50: nI i ne
            have c_78 : i ≠ q := by have h := mt (nI_eq (a := i) (b := q) (by omega) (by omega)).mpr c_78; omega
            omega
  exact lp3_1 ((n - q) + 1) q mk M s.heap [] ls (Nat.lt_succ_self _) (by omega) (fun l h1 h2 => absurd h1 (by omega)) (fun l h1 h2 => absurd h2.1 (by omega)) hI h19 (fun j _ => rfl) (lv_sub hl [1, 2, 3, 4, 0] rfl)
