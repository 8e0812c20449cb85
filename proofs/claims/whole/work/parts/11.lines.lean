def LSw (n : Nat) (kd sz : Nat → Nat) (rl en : Nat → Nat → Nat) : Prop := n ≤ 120 ∧ ∀ i, i < n → kd i < 6 ∧ sz i ≤ 6 ∧ ∀ j, j < sz i → rl i j < 6 ∧ en i j < 40 + i
theorem thE_some {e : Nat → Nat} {j u : Nat} (h : thE e j = some u) : (e j < 1000 → u = e j) ∧ u < 40 := by
  simp only [thE] at h
  split at h
  · cases h; exact ⟨fun _ => rfl, by assumption⟩
  · split at h
    · cases h
    · cases h; exact ⟨fun h => absurd h (by assumption), by decide⟩
theorem olE_some {e : Nat → Nat} {j u : Nat} (hb : e j < 1000) (h : olE e j = some u) : e j = 40 + u := by
  simp only [olE] at h
  split at h
  · cases h
  · cases h; omega
theorem olE_of {e : Nat → Nat} {j u : Nat} (h : e j = 40 + u) (hu : u < 900) : olE e j = some u := by
  simp only [olE]
  rw [if_neg (by omega), if_pos (by omega), h]
  congr 1
  omega
theorem thE_ok (e : Nat → Nat) (n : Nat) : ∀ j, j < n → oK (thE e j) := fun j _ t h => by have := (thE_some h).2; omega
theorem thE_lt (e : Nat → Nat) (n : Nat) : ∀ j, j < n → ∀ u, thE e j = some u → u < 40 := fun j _ u h => (thE_some h).2
theorem olE_ok {e : Nat → Nat} {n b : Nat} (hb : b ≤ 200) (h : ∀ j, j < n → e j < 40 + b) : ∀ j, j < n → oK (olE e j) := fun j hj t ht => by have h2 := h j hj; have h1 := olE_some (by omega) ht; omega
/-- how many below n are p -/
def cntB (p : Nat → Bool) : Nat → Nat
  | 0 => 0
  | n + 1 => if p n = true then cntB p n + 1 else cntB p n
theorem cntB_t {p : Nat → Bool} {n : Nat} (h : p n = true) : cntB p (n + 1) = cntB p n + 1 := if_pos h
theorem cntB_f {p : Nat → Bool} {n : Nat} (h : p n = false) : cntB p (n + 1) = cntB p n := if_neg (by rw [h]; exact Bool.false_ne_true)
theorem cntB_le (p : Nat → Bool) (n : Nat) : cntB p n ≤ n := by
  induction n with
  | zero => exact Nat.le_refl 0
  | succ n ih => simp only [cntB]; split <;> omega
theorem cntB_0 {p : Nat → Bool} {n : Nat} (h : ∀ i, i < n → p i = false) : cntB p n = 0 := by
  induction n with
  | zero => rfl
  | succ n ih => rw [cntB_f (h n (by omega))]; exact ih (fun i hi => h i (by omega))
/-- a line hangs on another one -/
def hgs (sz : Nat → Nat) (en : Nat → Nat → Nat) (l k : Nat) : Bool := hasL (olE (en l)) k (sz l)
def hgO (sz : Nat → Nat) (en : Nat → Nat → Nat) (k l : Nat) : Bool := decide (k < l) && hgs sz en l k
def hsT (rl : Nat → Nat) (th : Nat → Option Nat) (lst : Nat → Nat) (x n t : Nat) : Bool := (List.range n).any (fun i => decide (rl i = x) && (match th i with | some u => decide (lst u = t) | none => false))
theorem hsT_iff {rl : Nat → Nat} {th : Nat → Option Nat} {lst : Nat → Nat} {x n t : Nat} : hsT rl th lst x n t = true ↔ tS rl th lst x n t := by
  simp only [hsT, List.any_eq_true, List.mem_range, Bool.and_eq_true, decide_eq_true_eq, tS]
  constructor
  · rintro ⟨i, h1, h2, h3⟩
    refine ⟨i, h1, h2, ?_⟩
    cases h : th i with
    | none => rw [h] at h3; cases h3
    | some u => rw [h] at h3; exact ⟨u, rfl, decide_eq_true_eq.mp h3⟩
  · rintro ⟨i, h1, h2, u, h3, h4⟩
    exact ⟨i, h1, h2, by rw [h3]; exact decide_eq_true h4⟩
theorem hsT_in {rl : Nat → Nat} {th : Nat → Option Nat} {lst : Nat → Nat} {x n t : Nat} {r : Int64} (h : ∀ t, inS r t = true ↔ tS rl th lst x n t) : inS r t = hsT rl th lst x n t := by
  cases h1 : inS r t with
  | true => exact (hsT_iff.mpr ((h t).mp h1)).symm
  | false =>
    cases h2 : hsT rl th lst x n t with
    | false => rfl
    | true => rw [(h t).mpr (hsT_iff.mp h2)] at h1; cases h1
/-- the lines of a kind, in force on a day, with a thing in a role -/
def wth (kd : Nat → Nat) (fm to : Nat → Int32) (sz : Nat → Nat) (rl en : Nat → Nat → Nat) (lst : Nat → Nat) (t q x : Nat) (d : Int32) (l : Nat) : Bool := decide (kd l = q) && (decide (fm l ≤ d ∧ d ≤ to l) && hsT (rl l) (thE (en l)) lst x (sz l) t)
theorem hgO_t {sz : Nat → Nat} {en : Nat → Nat → Nat} {q i : Nat} (h1 : q < i) (h2 : hasL (olE (en i)) q (sz i) = true) : hgO sz en q i = true := by simp [hgO, hgs, h1, h2]
theorem hgO_f {sz : Nat → Nat} {en : Nat → Nat → Nat} {q i : Nat} (h2 : hasL (olE (en i)) q (sz i) = false) : hgO sz en q i = false := by simp [hgO, hgs, h2]
section WT
variable {kd : Nat → Nat} {fm to : Nat → Int32} {sz : Nat → Nat} {rl en : Nat → Nat → Nat} {lst : Nat → Nat} {t q x : Nat} {d : Int32} {l : Nat} {r : Int64}
theorem wth_n1 (h : kd l ≠ q) : wth kd fm to sz rl en lst t q x d l = false := by simp [wth, h]
theorem wth_n2 (h : decide (fm l ≤ d ∧ d ≤ to l) = false) : wth kd fm to sz rl en lst t q x d l = false := by simp only [wth, h, Bool.false_and, Bool.and_false]
theorem wth_n3 (hp : ∀ t, inS r t = true ↔ tS (rl l) (thE (en l)) lst x (sz l) t) (h : inS r t = false) : wth kd fm to sz rl en lst t q x d l = false := by simp only [wth, ← hsT_in hp, h, Bool.and_false]
theorem wth_y (h1 : kd l = q) (h2 : decide (fm l ≤ d ∧ d ≤ to l) = true) (hp : ∀ t, inS r t = true ↔ tS (rl l) (thE (en l)) lst x (sz l) t) (h : inS r t = true) : wth kd fm to sz rl en lst t q x d l = true := by simp only [wth, ← hsT_in hp, h, h1, h2, decide_true, Bool.and_true]
end WT

/-- X3_hangingOn -/
abbrev rm_c_X3_hangingOn : Room := { frames := 3, cells := 0, slots := 0, locals := 64 }
set_option maxHeartbeats 4000000 in
set_option maxRecDepth 100000 in
theorem c_X3_hangingOn (l : Launch) (G : GG) (z : Nat) (ad : Nat → Nat) (M : Mem) {n : Nat} {kd : Nat → Nat} {fm : Nat → Int32} {to : Nat → Int32} {sz : Nat → Nat} {rl : Nat → Nat → Nat} {en : Nat → Nat → Nat} {q : Nat} (hL : LSm G ad M n kd fm to sz rl en)  (hw : LSw n kd sz rl en) (hq : q < n) : Met l yX3_hangingOn wsX3_hangingOn rm_c_X3_hangingOn (Pr G z ad M [.ref (ad 16), .int (nI q)]) (vp_Si (fun r : Int32 => r = nI (cntB (hgO sz en q) n))) 0 0 (fun _ => False) := by
  refine Met.ofW (cc := cX3_hangingOn) (maxL := 4) (ret := (some .int)) (by decide) rfl ?_
  intro p e s m args below meth c s₁ B hml hv
  obtain ⟨rfl, hv⟩ := hv
  have hI := Iv.entry hv
  have hx := B.exec
  have hb := B.bytes
  have hr := B.returns
  have hts := atoms_spec (ws := wsX3_hangingOn) B.pre
  have hown : s.vm.findClass RX3 = some m.cls := findClass_of_methodNamed B.named
  have hlocks := B.notSynchronized
  have i_RX3 : ∀ w ∈ u_ws RX3 TX3 4, w ∈ wsX3_hangingOn := fun w h => List.mem_cons_of_mem _ (iu_X3 w h)
  have f_12 := hts _ (List.mem_cons_of_mem _ (lwg_of t_145 rfl))
  have cl_37 := hts _ (List.mem_cons_of_mem _ (lwg_of t_350 rfl))
  have i_RX2 : ∀ w ∈ u_ws RX2 TX2 4, w ∈ wsX3_hangingOn := fun w h => List.mem_cons_of_mem _ (iu_X2 w h)
  have hl := lv_entry ([.ref (ad 16), .int (nI q)]) (n := 4) (Nat.le_of_ble_eq_true rfl)
  rw [lg_entry_eq]
  generalize (lg_sl ([.ref (ad 16), .int (nI q)]) ++ List.replicate (4 - (lg_sl ([.ref (ad 16), .int (nI q)])).length) Slot.unset).toArray = ls at hl ⊢
  have hl : lv_has ls 4 [(0, .ref (ad 16)), (1, .int (nI q))] := hl
  refine w_q (fun Q hQ => ?_)
  have h16 := hL.1
  obtain ⟨mcn, ed, h17, hed⟩ := id hL.2.1
  have hw1 := hw.1
  refine lv_iconst (v := nI 0) hx hb dX3_hangingOn_0 (by decide) ?_
  refine lv_istore_n (lv' := [(2, .int (nI 0)), (0, .ref (ad 16)), (1, .int (nI q))]) hx hb dX3_hangingOn_1 rfl hl (by decide) rfl (fun ls hl => ?_)
  refine lv_iload_n hx hb dX3_hangingOn_2 rfl (lv_at hl 2 rfl) ?_
  refine lv_iconst (v := nI 1) hx hb dX3_hangingOn_3 (by decide) ?_
  refine lv_iadd hx hb dX3_hangingOn_4 ?_
  refine n_eq (nI_add q 1) ?_
  refine lv_istore_n (lv' := [(3, .int (nI (q + 1))), (2, .int (nI 0)), (0, .ref (ad 16)), (1, .int (nI q))]) hx hb dX3_hangingOn_5 rfl hl (by decide) rfl (fun ls hl => ?_)
  have lp6_1 : ∀ (fuel : Nat) (i : Nat) (cn : Nat) (ls : Array Slot), (n - i) < fuel → (q < i ∧ i ≤ n) → (cn = cntB (hgO sz en q) i) → lv_has ls 4 [(0, .ref (ad 16)), (1, .int (nI q)), (2, .int (nI cn)), (3, .int (nI i))] → W p l e (headSpec wsX3_hangingOn rm_c_X3_hangingOn).room s m ([.ref (ad 16), .int (nI q)] : List Value).toArray below meth c s.heap [] 0 0 Q (F0 m 6 ls []) := by
    intro fuel
    induction fuel with
    | zero => intro i cn ls hfu hi hcn hl; exact absurd hfu (Nat.not_lt_zero _)
    | succ fuel ih_2 =>
      intro i cn ls hfu hi hcn hl
      have hw1 := hw.1
      have hle := cntB_le (hgO sz en q) i
      refine lv_iload_n hx hb dX3_hangingOn_6 rfl (lv_at hl 3 rfl) ?_
      refine lv_aload_n hx hb dX3_hangingOn_7 rfl (lv_at hl 0 rfl) ?_
      refine h_get (C := RX3) (T := TX3) (N := 4) hx hb hts i_RX3 hown hI h16 rfl 0 (by decide) f_12 rfl rfl dX3_hangingOn_8 ?_
      refine k_Ri (va_runV (As := []) (rest := [.int (nI i)]) ⟨hx, hb, hml, hown, hts⟩ (c_Jx4a65c_size_8abf5 l G z ad M (n := n) hL.2.1) (cwV 0 hts (gV (lwg_of t_328 rfl) (lwg_of t_329 rfl) (lwg_of t_330 rfl) (lwg_of t_9 rfl) (lwg_of t_331 rfl)) rfl rfl rfl (by decide +kernel) ⟨Nat.le_of_ble_eq_true rfl, Nat.le_of_ble_eq_true rfl⟩) (hI.preV h17 rfl) rfl rfl hl.1 rfl (lv_room (Nat.le_of_ble_eq_true rfl)) dX3_hangingOn_11 ⟨Nat.le_of_ble_eq_true rfl, Nat.le_of_ble_eq_true rfl⟩) (fun _ h => h) (fun r_3 hp_4 => ?_)
      rw [hp_4]
      refine lv_icmp_ge (tgt := 47) hx hb dX3_hangingOn_14 (by decide) (fun c_5 => ?_) (fun c_5 => ?_)
      · -- 14: nI i ge
        have c_5 : n ≤ i := (nI_leI (a := n) (b := i) (by omega) (by omega)).mp (c_5)
        refine lv_iload_n hx hb dX3_hangingOn_47 rfl (lv_at hl 2 rfl) ?_
        subst hQ
        exact e_Ri hx hb hr rfl hlocks (by rw [hcn, show n = i by omega]) dX3_hangingOn_48
      · -- 14: nI i lt
        have c_5 : i < n := by have h := mt (nI_leI (a := n) (b := i) (by omega) (by omega)).mpr c_5; omega
        have hw1 := hw.1
        obtain ⟨hk6, hs6, hje⟩ := hw.2 i (by omega)
        refine lv_aload_n hx hb dX3_hangingOn_17 rfl (lv_at hl 0 rfl) ?_
        refine h_get (C := RX3) (T := TX3) (N := 4) hx hb hts i_RX3 hown hI h16 rfl 0 (by decide) f_12 rfl rfl dX3_hangingOn_18 ?_
        refine lv_iload_n hx hb dX3_hangingOn_21 rfl (lv_at hl 3 rfl) ?_
        refine k_Rq (va_runV (As := [.int (nI i)]) (rest := []) ⟨hx, hb, hml, hown, hts⟩ (c_Jx4a65c_get_915e3 l G z ad M (n := n) (i := i) hL.2.1 (by omega) (by omega)) (cwV 1 hts (gV (lwg_of t_336 rfl) (lwg_of t_337 rfl) (lwg_of t_338 rfl) (lwg_of t_9 rfl) (lwg_of t_339 rfl)) rfl rfl rfl (by decide +kernel) ⟨Nat.le_of_ble_eq_true rfl, Nat.le_of_ble_eq_true rfl⟩) (hI.preV h17 rfl) rfl rfl hl.1 rfl (lv_room (Nat.le_of_ble_eq_true rfl)) dX3_hangingOn_22 ⟨Nat.le_of_ble_eq_true rfl, Nat.le_of_ble_eq_true rfl⟩) (fun _ h => h) (fun r_6 hp_7 => ?_)
        rw [hp_7]; show W _ _ _ _ _ _ _ _ _ _ _ _ _ _ _ (F0 m 25 ls (.ref (ad (100 + 5 * i)) :: []))
        refine h_cast (q := (RX2, TX2, 4)) hx hb hown cl_37 hI (hL.2.2 i (by omega)).1 rfl dX3_hangingOn_25 ?_
        refine h_getN (C := RX2) (T := TX2) (N := 4) hx hb hts i_RX2 hown hI (hL.2.2 i (by omega)).1 rfl 3 (by decide) (nwf_at (i := 6) (q := ("LineStore$Lines", 43, "LineStore$Line", "ends", "LLineStore$Ends;", "LineStore")) hI rfl) rfl rfl dX3_hangingOn_28 ?_
        refine lv_iload_n hx hb dX3_hangingOn_31 rfl (lv_at hl 1 rfl) ?_
        refine k_Ri (va_runV (As := [.int (nI q)]) (rest := []) ⟨hx, hb, hml, hown, hts⟩ (c_X0_hasLine l G z ad M (k := 100 + 5 * i + 1) (sz := sz i) (ol := (olE (en i))) (x := q) (hL.2.2 i (by omega)).2.1 (hL.2.2 i (by omega)).2.2.2.2 (by omega) (olE_ok (b := i) (by omega) (fun j hj => (hje j hj).2)) (by omega)) (cwV 1 hts (gV (lwg_of t_868 rfl) (lwg_of t_869 rfl) (lwg_of t_870 rfl) (lwg_of t_5 rfl) (lwg_of t_871 rfl)) rfl rfl rfl (by decide +kernel) ⟨Nat.le_of_ble_eq_true rfl, Nat.le_of_ble_eq_true rfl⟩) (hI.preV (hL.2.2 i (by omega)).2.1 rfl) rfl rfl hl.1 rfl (lv_room (Nat.le_of_ble_eq_true rfl)) dX3_hangingOn_32 ⟨Nat.le_of_ble_eq_true rfl, Nat.le_of_ble_eq_true rfl⟩) (fun _ h => h) (fun r_8 hp_9 => ?_)
        rw [hp_9]
        refine lv_if_eq (tgt := 41) hx hb dX3_hangingOn_35 (by decide) (fun c_10 => ?_) (fun c_10 => ?_)
        · -- 35: bI (hasL (olE (en i)) q (sz i)) eq
          have c_10 : hasL (olE (en i)) q (sz i) = false := bI_f (c_10)
          refine lv_iinc (v := nI (i + 1)) (lv' := [(3, .int (nI (i + 1))), (0, .ref (ad 16)), (1, .int (nI q)), (2, .int (nI cn))]) hx hb dX3_hangingOn_41 hl (k := 3) rfl (nI_add i 1) (by decide) rfl (fun ls hl => ?_)
          refine lv_goto (tgt := 6) hx hb dX3_hangingOn_44 (by decide) ?_
          exact ih_2 (i + 1) cn ls (by omega) (by omega) (by rw [cntB_f (hgO_f (by assumption)), hcn]) (lv_sub hl [1, 2, 3, 0] rfl)
        · -- 35: bI (hasL (olE (en i)) q (sz i)) ne
          have c_10 : hasL (olE (en i)) q (sz i) = true := bI_t (c_10)
          refine lv_iinc (v := nI (cn + 1)) (lv' := [(2, .int (nI (cn + 1))), (0, .ref (ad 16)), (1, .int (nI q)), (3, .int (nI i))]) hx hb dX3_hangingOn_38 hl (k := 2) rfl (nI_add cn 1) (by decide) rfl (fun ls hl => ?_)
          refine lv_iinc (v := nI (i + 1)) (lv' := [(3, .int (nI (i + 1))), (2, .int (nI (cn + 1))), (0, .ref (ad 16)), (1, .int (nI q))]) hx hb dX3_hangingOn_41 hl (k := 3) rfl (nI_add i 1) (by decide) rfl (fun ls hl => ?_)
          refine lv_goto (tgt := 6) hx hb dX3_hangingOn_44 (by decide) ?_
          exact ih_2 (i + 1) (cn + 1) ls (by omega) (by omega) (by rw [cntB_t (hgO_t (by omega) (by assumption)), hcn]) (lv_sub hl [2, 3, 1, 0] rfl)
  exact lp6_1 ((n - (q + 1)) + 1) (q + 1) 0 ls (Nat.lt_succ_self _) (by omega) ((cntB_0 (fun j hj => by simp [hgO]; omega)).symm) (lv_sub hl [2, 3, 1, 0] rfl)

/-- X3_withThing -/
abbrev rm_c_X3_withThing : Room := { frames := 3, cells := 0, slots := 0, locals := 64 }
set_option maxHeartbeats 4000000 in
set_option maxRecDepth 100000 in
theorem c_X3_withThing (l : Launch) (G : GG) (z : Nat) (ad : Nat → Nat) (M : Mem) {n : Nat} {kd : Nat → Nat} {fm : Nat → Int32} {to : Nat → Int32} {sz : Nat → Nat} {rl : Nat → Nat → Nat} {en : Nat → Nat → Nat} {jn : Nat} {lst : Nat → Nat} {t : Nat} {q : Nat} {x : Nat} {d : Int32} (hL : LSm G ad M n kd fm to sz rl en) (h8 : M 8 = some (cOnes ad jn)) (h10 : M 10 = some (aI G 40 (nF lst))) (hw : LSw n kd sz rl en) (hlst : ∀ u, u < 40 → lst u < 40) (ht : t < 40) (hq : q < 6) (hx6 : x < 6) : Met l yX3_withThing wsX3_withThing rm_c_X3_withThing (Pr G z ad M [.ref (ad 16), .int (nI t), .int (nI q), .int (nI x), .int d, .ref (ad 8)]) (vp_Si (fun r : Int32 => r = nI (cntB (wth kd fm to sz rl en lst t q x d) n))) 0 0 (fun _ => False) := by
  refine Met.ofW (cc := cX3_withThing) (maxL := 9) (ret := (some .int)) (by decide) rfl ?_
  intro p e s m args below meth c s₁ B hml hv
  obtain ⟨rfl, hv⟩ := hv
  have hI := Iv.entry hv
  have hx := B.exec
  have hb := B.bytes
  have hr := B.returns
  have hts := atoms_spec (ws := wsX3_withThing) B.pre
  have hown : s.vm.findClass RX3 = some m.cls := findClass_of_methodNamed B.named
  have hlocks := B.notSynchronized
  have i_RX3 : ∀ w ∈ u_ws RX3 TX3 4, w ∈ wsX3_withThing := fun w h => List.mem_cons_of_mem _ (iu_X3 w h)
  have f_12 := hts _ (List.mem_cons_of_mem _ (lwg_of t_145 rfl))
  have cl_37 := hts _ (List.mem_cons_of_mem _ (lwg_of t_350 rfl))
  have i_RX2 : ∀ w ∈ u_ws RX2 TX2 4, w ∈ wsX3_withThing := fun w h => List.mem_cons_of_mem _ (iu_X2 w h)
  have st_100 := hts _ (List.mem_cons_of_mem _ (lwg_of t_419 rfl))
  have si_100 := hts _ (List.mem_cons_of_mem _ (lwg_of t_1 rfl))
  have hl := lv_entry ([.ref (ad 16), .int (nI t), .int (nI q), .int (nI x), .int d, .ref (ad 8)]) (n := 9) (Nat.le_of_ble_eq_true rfl)
  rw [lg_entry_eq]
  generalize (lg_sl ([.ref (ad 16), .int (nI t), .int (nI q), .int (nI x), .int d, .ref (ad 8)]) ++ List.replicate (9 - (lg_sl ([.ref (ad 16), .int (nI t), .int (nI q), .int (nI x), .int d, .ref (ad 8)])).length) Slot.unset).toArray = ls at hl ⊢
  have hl : lv_has ls 9 [(0, .ref (ad 16)), (1, .int (nI t)), (2, .int (nI q)), (3, .int (nI x)), (4, .int d), (5, .ref (ad 8))] := hl
  refine w_q (fun Q hQ => ?_)
  have h16 := hL.1
  obtain ⟨mcn, ed, h17, hed⟩ := id hL.2.1
  have hw1 := hw.1
  refine lv_iconst (v := nI 0) hx hb dX3_withThing_0 (by decide) ?_
  refine lv_istore (lv' := [(6, .int (nI 0)), (0, .ref (ad 16)), (1, .int (nI t)), (2, .int (nI q)), (3, .int (nI x)), (4, .int d), (5, .ref (ad 8))]) hx hb dX3_withThing_1 hl (by decide) rfl (fun ls hl => ?_)
  refine lv_iconst (v := nI 0) hx hb dX3_withThing_3 (by decide) ?_
  refine lv_istore (lv' := [(7, .int (nI 0)), (6, .int (nI 0)), (0, .ref (ad 16)), (1, .int (nI t)), (2, .int (nI q)), (3, .int (nI x)), (4, .int d), (5, .ref (ad 8))]) hx hb dX3_withThing_4 hl (by decide) rfl (fun ls hl => ?_)
  have lp6_1 : ∀ (fuel : Nat) (i : Nat) (cn : Nat) (ls : Array Slot), (n - i) < fuel → (i ≤ n) → (cn = cntB (wth kd fm to sz rl en lst t q x d) i) → lv_has ls 9 [(0, .ref (ad 16)), (1, .int (nI t)), (2, .int (nI q)), (3, .int (nI x)), (4, .int d), (5, .ref (ad 8)), (6, .int (nI cn)), (7, .int (nI i))] → W p l e (headSpec wsX3_withThing rm_c_X3_withThing).room s m ([.ref (ad 16), .int (nI t), .int (nI q), .int (nI x), .int d, .ref (ad 8)] : List Value).toArray below meth c s.heap [] 0 0 Q (F0 m 6 ls []) := by
    intro fuel
    induction fuel with
    | zero => intro i cn ls hfu hi hcn hl; exact absurd hfu (Nat.not_lt_zero _)
    | succ fuel ih_2 =>
      intro i cn ls hfu hi hcn hl
      have hw1 := hw.1
      have hle := cntB_le (wth kd fm to sz rl en lst t q x d) i
      refine lv_iload hx hb dX3_withThing_6 (lv_at hl 7 rfl) ?_
      refine lv_aload_n hx hb dX3_withThing_8 rfl (lv_at hl 0 rfl) ?_
      refine h_get (C := RX3) (T := TX3) (N := 4) hx hb hts i_RX3 hown hI h16 rfl 0 (by decide) f_12 rfl rfl dX3_withThing_9 ?_
      refine k_Ri (va_runV (As := []) (rest := [.int (nI i)]) ⟨hx, hb, hml, hown, hts⟩ (c_Jx4a65c_size_8abf5 l G z ad M (n := n) hL.2.1) (cwV 0 hts (gV (lwg_of t_328 rfl) (lwg_of t_329 rfl) (lwg_of t_330 rfl) (lwg_of t_9 rfl) (lwg_of t_331 rfl)) rfl rfl rfl (by decide +kernel) ⟨Nat.le_of_ble_eq_true rfl, Nat.le_of_ble_eq_true rfl⟩) (hI.preV h17 rfl) rfl rfl hl.1 rfl (lv_room (Nat.le_of_ble_eq_true rfl)) dX3_withThing_12 ⟨Nat.le_of_ble_eq_true rfl, Nat.le_of_ble_eq_true rfl⟩) (fun _ h => h) (fun r_3 hp_4 => ?_)
      rw [hp_4]
      refine lv_icmp_ge (tgt := 78) hx hb dX3_withThing_15 (by decide) (fun c_5 => ?_) (fun c_5 => ?_)
      · -- 15: nI i ge
        have c_5 : n ≤ i := (nI_leI (a := n) (b := i) (by omega) (by omega)).mp (c_5)
        refine lv_iload hx hb dX3_withThing_78 (lv_at hl 6 rfl) ?_
        subst hQ
        exact e_Ri hx hb hr rfl hlocks (by rw [hcn, show n = i by omega]) dX3_withThing_80
      · -- 15: nI i lt
        have c_5 : i < n := by have h := mt (nI_leI (a := n) (b := i) (by omega) (by omega)).mpr c_5; omega
        have hw1 := hw.1
        obtain ⟨hk6, hs6, hje⟩ := hw.2 i (by omega)
        refine lv_aload_n hx hb dX3_withThing_18 rfl (lv_at hl 0 rfl) ?_
        refine h_get (C := RX3) (T := TX3) (N := 4) hx hb hts i_RX3 hown hI h16 rfl 0 (by decide) f_12 rfl rfl dX3_withThing_19 ?_
        refine lv_iload hx hb dX3_withThing_22 (lv_at hl 7 rfl) ?_
        refine k_Rq (va_runV (As := [.int (nI i)]) (rest := []) ⟨hx, hb, hml, hown, hts⟩ (c_Jx4a65c_get_915e3 l G z ad M (n := n) (i := i) hL.2.1 (by omega) (by omega)) (cwV 1 hts (gV (lwg_of t_336 rfl) (lwg_of t_337 rfl) (lwg_of t_338 rfl) (lwg_of t_9 rfl) (lwg_of t_339 rfl)) rfl rfl rfl (by decide +kernel) ⟨Nat.le_of_ble_eq_true rfl, Nat.le_of_ble_eq_true rfl⟩) (hI.preV h17 rfl) rfl rfl hl.1 rfl (lv_room (Nat.le_of_ble_eq_true rfl)) dX3_withThing_24 ⟨Nat.le_of_ble_eq_true rfl, Nat.le_of_ble_eq_true rfl⟩) (fun _ h => h) (fun r_6 hp_7 => ?_)
        rw [hp_7]; show W _ _ _ _ _ _ _ _ _ _ _ _ _ _ _ (F0 m 27 ls (.ref (ad (100 + 5 * i)) :: []))
        refine h_cast (q := (RX2, TX2, 4)) hx hb hown cl_37 hI (hL.2.2 i (by omega)).1 rfl dX3_withThing_27 ?_
        refine lv_astore (lv' := [(8, .ref (ad (100 + 5 * i))), (0, .ref (ad 16)), (1, .int (nI t)), (2, .int (nI q)), (3, .int (nI x)), (4, .int d), (5, .ref (ad 8)), (6, .int (nI cn)), (7, .int (nI i))]) hx hb dX3_withThing_30 hl (by decide) rfl (fun ls hl => ?_)
        refine lv_aload hx hb dX3_withThing_32 (lv_at hl 0 rfl) ?_
        refine h_getN (C := RX2) (T := TX2) (N := 4) hx hb hts i_RX2 hown hI (hL.2.2 i (by omega)).1 rfl 0 (by decide) (nwf_at (i := 9) (q := ("LineStore$Lines", 75, "LineStore$Line", "kind", "I", "LineStore")) hI rfl) rfl rfl dX3_withThing_34 ?_
        refine lv_iload_n hx hb dX3_withThing_37 rfl (lv_at hl 3 rfl) ?_
        refine lv_icmp_ne (tgt := 72) hx hb dX3_withThing_38 (by decide) (fun c_8 => ?_) (fun c_8 => ?_)
        · -- 38: nI (kd i) ne
          have c_8 : (kd i) ≠ q := by have h := mt (nI_eq (a := (kd i)) (b := q) (by omega) (by omega)).mpr c_8; omega
          refine lv_iinc (v := nI (i + 1)) (lv' := [(7, .int (nI (i + 1))), (8, .ref (ad (100 + 5 * i))), (0, .ref (ad 16)), (1, .int (nI t)), (2, .int (nI q)), (3, .int (nI x)), (4, .int d), (5, .ref (ad 8)), (6, .int (nI cn))]) hx hb dX3_withThing_72 hl (k := 8) rfl (nI_add i 1) (by decide) rfl (fun ls hl => ?_)
          refine lv_goto (tgt := 6) hx hb dX3_withThing_75 (by decide) ?_
          exact ih_2 (i + 1) cn ls (by omega) (by omega) (by rw [cntB_f (wth_n1 (by assumption)), hcn]) (lv_sub hl [2, 3, 4, 5, 6, 7, 8, 0] rfl)
        · -- 38: nI (kd i) eq
          have c_8 : (kd i) = q := (nI_eq (a := (kd i)) (b := q) (by omega) (by omega)).mp (c_8)
          refine lv_aload hx hb dX3_withThing_41 (lv_at hl 0 rfl) ?_
          refine lv_iload hx hb dX3_withThing_43 (lv_at hl 5 rfl) ?_
          refine k_Ri (va_runV (As := [.int d]) (rest := []) ⟨hx, hb, hml, hown, hts⟩ (c_X2_isInForce l G z ad M (k := 100 + 5 * i) (kd := kd i) (fm := fm i) (to := to i) (d := d) (hL.2.2 i (by omega)).1) (cwV 1 hts (gV (lwg_of t_821 rfl) (lwg_of t_356 rfl) (lwg_of t_357 rfl) (lwg_of t_21 rfl) (lwg_of t_358 rfl)) rfl rfl rfl (by decide +kernel) ⟨Nat.le_of_ble_eq_true rfl, Nat.le_of_ble_eq_true rfl⟩) (hI.preV (hL.2.2 i (by omega)).1 rfl) rfl rfl hl.1 rfl (lv_room (Nat.le_of_ble_eq_true rfl)) dX3_withThing_45 ⟨Nat.le_of_ble_eq_true rfl, Nat.le_of_ble_eq_true rfl⟩) (fun _ h => h) (fun r_9 hp_10 => ?_)
          rw [hp_10]
          refine lv_if_eq (tgt := 72) hx hb dX3_withThing_48 (by decide) (fun c_11 => ?_) (fun c_11 => ?_)
          · -- 48: bI (decide ((fm i) ≤ d ∧ d ≤ (to i))) eq
            have c_11 : decide ((fm i) ≤ d ∧ d ≤ (to i)) = false := bI_f (c_11)
            refine lv_iinc (v := nI (i + 1)) (lv' := [(7, .int (nI (i + 1))), (8, .ref (ad (100 + 5 * i))), (0, .ref (ad 16)), (1, .int (nI t)), (2, .int (nI q)), (3, .int (nI x)), (4, .int d), (5, .ref (ad 8)), (6, .int (nI cn))]) hx hb dX3_withThing_72 hl (k := 8) rfl (nI_add i 1) (by decide) rfl (fun ls hl => ?_)
            refine lv_goto (tgt := 6) hx hb dX3_withThing_75 (by decide) ?_
            exact ih_2 (i + 1) cn ls (by omega) (by omega) (by rw [cntB_f (wth_n2 (by assumption)), hcn]) (lv_sub hl [2, 3, 4, 5, 6, 7, 8, 0] rfl)
          · -- 48: bI (decide ((fm i) ≤ d ∧ d ≤ (to i))) ne
            have c_11 : decide ((fm i) ≤ d ∧ d ≤ (to i)) = true := bI_t (c_11)
            refine lv_aload hx hb dX3_withThing_51 (lv_at hl 0 rfl) ?_
            refine h_getN (C := RX2) (T := TX2) (N := 4) hx hb hts i_RX2 hown hI (hL.2.2 i (by omega)).1 rfl 3 (by decide) (nwf_at (i := 6) (q := ("LineStore$Lines", 43, "LineStore$Line", "ends", "LLineStore$Ends;", "LineStore")) hI rfl) rfl rfl dX3_withThing_53 ?_
            refine lv_iload_n hx hb dX3_withThing_56 rfl (lv_at hl 4 rfl) ?_
            refine lv_aload hx hb dX3_withThing_57 (lv_at hl 6 rfl) ?_
            refine k_Rl (va_runV (As := [.int (nI x), .ref (ad 8)]) (rest := []) ⟨hx, hb, hml, hown, hts⟩ (c_X0_thingsInRole l G z ad M (k := 100 + 5 * i + 1) (sz := sz i) (rl := (rl i)) (th := (thE (en i))) (jn := jn) (lst := lst) (x := x) (hL.2.2 i (by omega)).2.1 (hL.2.2 i (by omega)).2.2.1 (hL.2.2 i (by omega)).2.2.2.1 h8 h10 (by omega) (thE_ok _ _) (thE_lt _ _) hlst (fun j hj => (hje j hj).1) (by omega)) (cwV 2 hts (gV (lwg_of t_742 rfl) (lwg_of t_373 rfl) (lwg_of t_374 rfl) (lwg_of t_5 rfl) (lwg_of t_375 rfl)) rfl rfl rfl (by decide +kernel) ⟨Nat.le_of_ble_eq_true rfl, Nat.le_of_ble_eq_true rfl⟩) (hI.preV (hL.2.2 i (by omega)).2.1 rfl) rfl rfl hl.1 rfl (lv_room (Nat.le_of_ble_eq_true rfl)) dX3_withThing_59 ⟨Nat.le_of_ble_eq_true rfl, Nat.le_of_ble_eq_true rfl⟩) (fun _ h => h) (fun r_12 hp_13 => ?_)
            refine lv_iload_n hx hb dX3_withThing_62 rfl (lv_at hl 2 rfl) ?_
            refine k_Ri (va_runSN (As := [.long r_12, .int (nI t)]) (rest := []) ⟨hx, hb, hml, hown, hts⟩ (c_X9_isIn l G z ad M (x := r_12) (t := t) (by omega)) ⟨va_cnB 2 hts (gU (lwg_of t_420 rfl)) rfl rfl rfl (nwm_at (i := 6) (q := ("LineStore$Lines", 100, ⟨"LineStore", "isIn", "(JI)Z"⟩, "LineStore")) hI rfl) si_100 (by decide +kernel) ⟨Nat.le_of_ble_eq_true rfl, Nat.le_of_ble_eq_true rfl⟩, st_100, trivial⟩ hI.preS rfl rfl hl.1 rfl (lv_room (Nat.le_of_ble_eq_true rfl)) dX3_withThing_63 ⟨Nat.le_of_ble_eq_true rfl, Nat.le_of_ble_eq_true rfl⟩) (fun _ h => h) (fun r_14 hp_15 => ?_)
            rw [hp_15]
            refine lv_if_eq (tgt := 72) hx hb dX3_withThing_66 (by decide) (fun c_16 => ?_) (fun c_16 => ?_)
            · -- 66: bI (inS r_12 t) eq
              have c_16 : inS r_12 t = false := bI_f (c_16)
              refine lv_iinc (v := nI (i + 1)) (lv' := [(7, .int (nI (i + 1))), (8, .ref (ad (100 + 5 * i))), (0, .ref (ad 16)), (1, .int (nI t)), (2, .int (nI q)), (3, .int (nI x)), (4, .int d), (5, .ref (ad 8)), (6, .int (nI cn))]) hx hb dX3_withThing_72 hl (k := 8) rfl (nI_add i 1) (by decide) rfl (fun ls hl => ?_)
              refine lv_goto (tgt := 6) hx hb dX3_withThing_75 (by decide) ?_
              exact ih_2 (i + 1) cn ls (by omega) (by omega) (by rw [cntB_f (wth_n3 hp_13 (by assumption)), hcn]) (lv_sub hl [2, 3, 4, 5, 6, 7, 8, 0] rfl)
            · -- 66: bI (inS r_12 t) ne
              have c_16 : inS r_12 t = true := bI_t (c_16)
              refine lv_iinc (v := nI (cn + 1)) (lv' := [(6, .int (nI (cn + 1))), (8, .ref (ad (100 + 5 * i))), (0, .ref (ad 16)), (1, .int (nI t)), (2, .int (nI q)), (3, .int (nI x)), (4, .int d), (5, .ref (ad 8)), (7, .int (nI i))]) hx hb dX3_withThing_69 hl (k := 7) rfl (nI_add cn 1) (by decide) rfl (fun ls hl => ?_)
              refine lv_iinc (v := nI (i + 1)) (lv' := [(7, .int (nI (i + 1))), (6, .int (nI (cn + 1))), (8, .ref (ad (100 + 5 * i))), (0, .ref (ad 16)), (1, .int (nI t)), (2, .int (nI q)), (3, .int (nI x)), (4, .int d), (5, .ref (ad 8))]) hx hb dX3_withThing_72 hl (k := 8) rfl (nI_add i 1) (by decide) rfl (fun ls hl => ?_)
              refine lv_goto (tgt := 6) hx hb dX3_withThing_75 (by decide) ?_
              exact ih_2 (i + 1) (cn + 1) ls (by omega) (by omega) (by rw [cntB_t (wth_y (by assumption) (by assumption) hp_13 (by assumption)), hcn]) (lv_sub hl [3, 4, 5, 6, 7, 8, 1, 0] rfl)
  exact lp6_1 ((n - 0) + 1) 0 0 ls (Nat.lt_succ_self _) (by omega) (rfl) (lv_sub hl [2, 3, 4, 5, 6, 7, 1, 0] rfl)

/-- the lines that are ends of a new one are in force through its span -/
def brs (fm to : Nat → Int32) (e0 : Nat → Nat) (f0 t0 : Int32) (m : Nat) : Prop := ∀ j, j < m → 40 ≤ e0 j → fm (e0 j - 40) ≤ f0 ∧ t0 ≤ to (e0 j - 40)

/-- X3_bear -/
abbrev rm_c_X3_bear : Room := { frames := 3, cells := 0, slots := 0, locals := 64 }
set_option maxHeartbeats 4000000 in
set_option maxRecDepth 100000 in
theorem c_X3_bear (l : Launch) (G : GG) (z : Nat) (ad : Nat → Nat) (M : Mem) {n : Nat} {kd : Nat → Nat} {fm : Nat → Int32} {to : Nat → Int32} {sz : Nat → Nat} {rl : Nat → Nat → Nat} {en : Nat → Nat → Nat} {k : Nat} {q : Nat} {f0 : Int32} {t0 : Int32} {s0 : Nat} {r0 : Nat → Nat} {e0 : Nat → Nat} (hL : LSm G ad M n kd fm to sz rl en) (hk : M k = some (cLine ad k q f0 t0)) (he : M (k + 1) = some (cEnds ad (k + 1) s0)) (hr4 : M (k + 4) = some (aI G 6 (oF (olE e0)))) (hw : LSw n kd sz rl en) (hs0 : s0 ≤ 6) (hr0 : ∀ j, j < s0 → r0 j < 6) (he0 : ∀ j, j < s0 → e0 j < 40 + n) : Met l yX3_bear wsX3_bear rm_c_X3_bear (Pr G z ad M [.ref (ad 16), .ref (ad k)]) (vp_Si (fun r : Int32 => ∃ b : Bool, r = bI b ∧ (b = true ↔ brs fm to e0 f0 t0 s0))) 0 0 (fun _ => False) := by
  refine Met.ofW (cc := cX3_bear) (maxL := 4) (ret := (some .boolean)) (by decide) rfl ?_
  intro p e s m args below meth c s₁ B hml hv
  obtain ⟨rfl, hv⟩ := hv
  have hI := Iv.entry hv
  have hx := B.exec
  have hb := B.bytes
  have hr := B.returns
  have hts := atoms_spec (ws := wsX3_bear) B.pre
  have hown : s.vm.findClass RX3 = some m.cls := findClass_of_methodNamed B.named
  have hlocks := B.notSynchronized
  have i_RX2 : ∀ w ∈ u_ws RX2 TX2 4, w ∈ wsX3_bear := fun w h => List.mem_cons_of_mem _ (iu_X2 w h)
  have i_RX3 : ∀ w ∈ u_ws RX3 TX3 4, w ∈ wsX3_bear := fun w h => List.mem_cons_of_mem _ (iu_X3 w h)
  have f_12 := hts _ (List.mem_cons_of_mem _ (lwg_of t_145 rfl))
  have cl_37 := hts _ (List.mem_cons_of_mem _ (lwg_of t_350 rfl))
  have hl := lv_entry ([.ref (ad 16), .ref (ad k)]) (n := 4) (Nat.le_of_ble_eq_true rfl)
  rw [lg_entry_eq]
  generalize (lg_sl ([.ref (ad 16), .ref (ad k)]) ++ List.replicate (4 - (lg_sl ([.ref (ad 16), .ref (ad k)])).length) Slot.unset).toArray = ls at hl ⊢
  have hl : lv_has ls 4 [(0, .ref (ad 16)), (1, .ref (ad k))] := hl
  refine w_q (fun Q hQ => ?_)
  have h16 := hL.1
  obtain ⟨mcn, ed, h17, hed⟩ := id hL.2.1
  have hw1 := hw.1
  refine lv_iconst (v := nI 0) hx hb dX3_bear_0 (by decide) ?_
  refine lv_istore_n (lv' := [(2, .int (nI 0)), (0, .ref (ad 16)), (1, .ref (ad k))]) hx hb dX3_bear_1 rfl hl (by decide) rfl (fun ls hl => ?_)
  have lp2_1 : ∀ (fuel : Nat) (i : Nat) (ls : Array Slot), (s0 - i) < fuel → (i ≤ s0) → (brs fm to e0 f0 t0 i) → lv_has ls 4 [(0, .ref (ad 16)), (1, .ref (ad k)), (2, .int (nI i))] → W p l e (headSpec wsX3_bear rm_c_X3_bear).room s m ([.ref (ad 16), .ref (ad k)] : List Value).toArray below meth c s.heap [] 0 0 Q (F0 m 2 ls []) := by
    intro fuel
    induction fuel with
    | zero => intro i ls hfu hi hb1 hl; exact absurd hfu (Nat.not_lt_zero _)
    | succ fuel ih_2 =>
      intro i ls hfu hi hb1 hl
      have hw1 := hw.1
      refine lv_iload_n hx hb dX3_bear_2 rfl (lv_at hl 2 rfl) ?_
      refine lv_aload_n hx hb dX3_bear_3 rfl (lv_at hl 1 rfl) ?_
      refine h_getN (C := RX2) (T := TX2) (N := 4) hx hb hts i_RX2 hown hI hk rfl 3 (by decide) (nwf_at (i := 6) (q := ("LineStore$Lines", 43, "LineStore$Line", "ends", "LLineStore$Ends;", "LineStore")) hI rfl) rfl rfl dX3_bear_4 ?_
      refine k_Ri (va_runV (As := []) (rest := [.int (nI i)]) ⟨hx, hb, hml, hown, hts⟩ (c_X0_size l G z ad M (k := k + 1) (sz := s0) he) (cwV 0 hts (gV (lwg_of t_702 rfl) (lwg_of t_451 rfl) (lwg_of t_452 rfl) (lwg_of t_5 rfl) (lwg_of t_453 rfl)) rfl rfl rfl (by decide +kernel) ⟨Nat.le_of_ble_eq_true rfl, Nat.le_of_ble_eq_true rfl⟩) (hI.preV he rfl) rfl rfl hl.1 rfl (lv_room (Nat.le_of_ble_eq_true rfl)) dX3_bear_7 ⟨Nat.le_of_ble_eq_true rfl, Nat.le_of_ble_eq_true rfl⟩) (fun _ h => h) (fun r_3 hp_4 => ?_)
      rw [hp_4]
      refine lv_icmp_ge (tgt := 60) hx hb dX3_bear_10 (by decide) (fun c_5 => ?_) (fun c_5 => ?_)
      · -- 10: nI i ge
        have c_5 : s0 ≤ i := (nI_leI (a := s0) (b := i) (by omega) (by omega)).mp (c_5)
        refine lv_iconst (v := nI 1) hx hb dX3_bear_60 (by decide) ?_
        subst hQ
        exact e_Ri hx hb hr rfl hlocks (⟨true, rfl, ⟨fun _ => (by rw [show s0 = i by omega]; exact hb1), fun _ => rfl⟩⟩) dX3_bear_61
      · -- 10: nI i lt
        have c_5 : i < s0 := by have h := mt (nI_leI (a := s0) (b := i) (by omega) (by omega)).mpr c_5; omega
        have hei := he0 i (by omega)
        have hok := olE_ok (b := n) (by omega) he0 i (by omega)
        have ok_olE : ∀ (e : Nat → Nat) (j : Nat), e = e0 → j = i → oK (olE e j) := fun e j h1 h2 => by subst h1; subst h2; exact hok
        refine lv_aload_n hx hb dX3_bear_13 rfl (lv_at hl 1 rfl) ?_
        refine h_getN (C := RX2) (T := TX2) (N := 4) hx hb hts i_RX2 hown hI hk rfl 3 (by decide) (nwf_at (i := 6) (q := ("LineStore$Lines", 43, "LineStore$Line", "ends", "LLineStore$Ends;", "LineStore")) hI rfl) rfl rfl dX3_bear_14 ?_
        refine lv_iload_n hx hb dX3_bear_17 rfl (lv_at hl 2 rfl) ?_
        refine k_Ri (va_runV (As := [.int (nI i)]) (rest := []) ⟨hx, hb, hml, hown, hts⟩ (c_X0_line l G z ad M (k := k + 1) (sz := s0) (ol := (olE e0)) (i := i) he hr4 (by omega)) (cwV 1 hts (gV (lwg_of t_703 rfl) (lwg_of t_704 rfl) (lwg_of t_705 rfl) (lwg_of t_5 rfl) (lwg_of t_706 rfl)) rfl rfl rfl (by decide +kernel) ⟨Nat.le_of_ble_eq_true rfl, Nat.le_of_ble_eq_true rfl⟩) (hI.preV he rfl) rfl rfl hl.1 rfl (lv_room (Nat.le_of_ble_eq_true rfl)) dX3_bear_18 ⟨Nat.le_of_ble_eq_true rfl, Nat.le_of_ble_eq_true rfl⟩) (fun _ h => h) (fun r_6 hp_7 => ?_)
        rw [hp_7]
        refine lv_istore_n (lv' := [(3, .int (oI ((olE e0) i))), (0, .ref (ad 16)), (1, .ref (ad k)), (2, .int (nI i))]) hx hb dX3_bear_21 rfl hl (by decide) rfl (fun ls hl => ?_)
        refine lv_iload_n hx hb dX3_bear_22 rfl (lv_at hl 0 rfl) ?_
        refine lv_iconst (v := (-1)) hx hb dX3_bear_23 (by decide) ?_
        refine lv_icmp_eq (tgt := 54) hx hb dX3_bear_24 (by decide) (fun c_8 => ?_) (fun c_8 => ?_)
        · -- 24: oI ((olE e0) i) eq
          have c_8 : (olE e0) i = none := (oI_none_of (ok_olE e0 i rfl rfl )).mp c_8
          refine lv_iinc (v := nI (i + 1)) (lv' := [(2, .int (nI (i + 1))), (3, .int (oI ((olE e0) i))), (0, .ref (ad 16)), (1, .ref (ad k))]) hx hb dX3_bear_54 hl (k := 3) rfl (nI_add i 1) (by decide) rfl (fun ls hl => ?_)
          refine lv_goto (tgt := 2) hx hb dX3_bear_57 (by decide) ?_
          exact ih_2 (i + 1) ls (by omega) (by omega) (lt_s2 hb1 (fun h4 => (by rw [olE_of (u := e0 i - 40) (by omega) (by omega)] at *; simp_all))) (lv_sub hl [2, 3, 0] rfl)
        · -- 24: oI ((olE e0) i) ne
          have c_8 : (olE e0) i ≠ none := (fun h => c_8 ((oI_none_of (ok_olE e0 i rfl rfl )).mpr h))
          obtain ⟨u, hu⟩ := Option.ne_none_iff_exists'.mp (by assumption : olE e0 i ≠ none)
          have hu3 := he0 i (by omega)
          have hu2 := olE_some (by omega) hu
          have hun : u < n := by omega
          refine lv_aload_n hx hb dX3_bear_27 rfl (lv_at hl 1 rfl) ?_
          refine h_get (C := RX3) (T := TX3) (N := 4) hx hb hts i_RX3 hown hI h16 rfl 0 (by decide) f_12 rfl rfl dX3_bear_28 ?_
          refine lv_iload_n hx hb dX3_bear_31 rfl (lv_at hl 0 rfl) ?_
          refine n_eq (show _ = nI u from by show oI (olE e0 i) = _; rw [hu]; rfl) ?_
          refine k_Rq (va_runV (As := [.int (nI u)]) (rest := []) ⟨hx, hb, hml, hown, hts⟩ (c_Jx4a65c_get_915e3 l G z ad M (n := n) (i := u) hL.2.1 (by omega) (by omega)) (cwV 1 hts (gV (lwg_of t_336 rfl) (lwg_of t_337 rfl) (lwg_of t_338 rfl) (lwg_of t_9 rfl) (lwg_of t_339 rfl)) rfl rfl rfl (by decide +kernel) ⟨Nat.le_of_ble_eq_true rfl, Nat.le_of_ble_eq_true rfl⟩) (hI.preV h17 rfl) rfl rfl hl.1 rfl (lv_room (Nat.le_of_ble_eq_true rfl)) dX3_bear_32 ⟨Nat.le_of_ble_eq_true rfl, Nat.le_of_ble_eq_true rfl⟩) (fun _ h => h) (fun r_9 hp_10 => ?_)
          rw [hp_10]; show W _ _ _ _ _ _ _ _ _ _ _ _ _ _ _ (F0 m 35 ls (.ref (ad (100 + 5 * u)) :: []))
          refine h_cast (q := (RX2, TX2, 4)) hx hb hown cl_37 hI (hL.2.2 u (by omega)).1 rfl dX3_bear_35 ?_
          refine lv_aload_n hx hb dX3_bear_38 rfl (lv_at hl 2 rfl) ?_
          refine h_getN (C := RX2) (T := TX2) (N := 4) hx hb hts i_RX2 hown hI hk rfl 1 (by decide) (nwf_at (i := 7) (q := ("LineStore$Lines", 58, "LineStore$Line", "from", "I", "LineStore")) hI rfl) rfl rfl dX3_bear_39 ?_
          refine lv_aload_n hx hb dX3_bear_42 rfl (lv_at hl 2 rfl) ?_
          refine h_getN (C := RX2) (T := TX2) (N := 4) hx hb hts i_RX2 hown hI hk rfl 2 (by decide) (nwf_at (i := 8) (q := ("LineStore$Lines", 62, "LineStore$Line", "to", "I", "LineStore")) hI rfl) rfl rfl dX3_bear_43 ?_
          refine k_Ri (va_runV (As := [.int f0, .int t0]) (rest := []) ⟨hx, hb, hml, hown, hts⟩ (c_X2_isInForceThrough l G z ad M (k := 100 + 5 * u) (kd := kd u) (fm := fm u) (to := to u) (a := f0) (b := t0) (hL.2.2 u (by omega)).1) (cwV 2 hts (gV (lwg_of t_707 rfl) (lwg_of t_708 rfl) (lwg_of t_709 rfl) (lwg_of t_21 rfl) (lwg_of t_710 rfl)) rfl rfl rfl (by decide +kernel) ⟨Nat.le_of_ble_eq_true rfl, Nat.le_of_ble_eq_true rfl⟩) (hI.preV (hL.2.2 u (by omega)).1 rfl) rfl rfl hl.1 rfl (lv_room (Nat.le_of_ble_eq_true rfl)) dX3_bear_46 ⟨Nat.le_of_ble_eq_true rfl, Nat.le_of_ble_eq_true rfl⟩) (fun _ h => h) (fun r_11 hp_12 => ?_)
          rw [hp_12]
          refine lv_if_ne (tgt := 54) hx hb dX3_bear_49 (by decide) (fun c_13 => ?_) (fun c_13 => ?_)
          · -- 49: bI (decide ((fm u) ≤ f0 ∧ t0 ≤ (to u))) ne
            have c_13 : decide ((fm u) ≤ f0 ∧ t0 ≤ (to u)) = true := bI_t (c_13)
            refine lv_iinc (v := nI (i + 1)) (lv' := [(2, .int (nI (i + 1))), (3, .int (oI ((olE e0) i))), (0, .ref (ad 16)), (1, .ref (ad k))]) hx hb dX3_bear_54 hl (k := 3) rfl (nI_add i 1) (by decide) rfl (fun ls hl => ?_)
            refine lv_goto (tgt := 2) hx hb dX3_bear_57 (by decide) ?_
            exact ih_2 (i + 1) ls (by omega) (by omega) (lt_s2 hb1 (fun h4 => (by have := olE_some (by omega) hu; rw [show e0 i - 40 = u by omega]; simpa using (by assumption : decide (fm u ≤ f0 ∧ t0 ≤ to u) = true)))) (lv_sub hl [2, 3, 0] rfl)
          · -- 49: bI (decide ((fm u) ≤ f0 ∧ t0 ≤ (to u))) eq
            have c_13 : decide ((fm u) ≤ f0 ∧ t0 ≤ (to u)) = false := bI_f (c_13)
            refine lv_iconst (v := nI 0) hx hb dX3_bear_52 (by decide) ?_
            subst hQ
            exact e_Ri hx hb hr rfl hlocks (⟨false, rfl, ⟨fun h => absurd h Bool.false_ne_true, fun h => (by have h9 := h i (by omega) (by omega); rw [show e0 i - 40 = u by omega] at h9; simp_all)⟩⟩) dX3_bear_53
  exact lp2_1 ((s0 - 0) + 1) 0 ls (Nat.lt_succ_self _) (by omega) (fun j hj => absurd hj (Nat.not_lt_zero j)) (lv_sub hl [1, 2, 0] rfl)
