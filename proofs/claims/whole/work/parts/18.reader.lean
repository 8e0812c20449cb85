/-- how far P goes on from p -/
def runF (P : Nat → Bool) (len : Nat) : Nat → Nat → Nat
  | 0, p => p
  | f + 1, p => if p < len ∧ P p = true then runF P len f (p + 1) else p
def run (P : Nat → Bool) (len p : Nat) : Nat := runF P len (len - p) p
theorem run_go {P : Nat → Bool} {len p : Nat} (h : p < len) (hp : P p = true) : run P len p = run P len (p + 1) := by
  rw [run, show len - p = (len - (p + 1)) + 1 by omega, runF, if_pos ⟨h, hp⟩]; rfl
theorem run_stop {P : Nat → Bool} {len p : Nat} (h : ¬ (p < len ∧ P p = true)) : run P len p = p := by
  rw [run]
  cases len - p with
  | zero => rfl
  | succ f => rw [runF, if_neg h]
theorem runF_le {P : Nat → Bool} {len : Nat} : ∀ f p, p ≤ runF P len f p ∧ (p ≤ len → runF P len f p ≤ len) := by
  intro f
  induction f with
  | zero => intro p; exact ⟨Nat.le_refl _, fun h => h⟩
  | succ f ih =>
    intro p
    rw [runF]
    split
    · have := ih (p + 1); exact ⟨by omega, fun _ => this.2 (by omega)⟩
    · exact ⟨Nat.le_refl _, fun h => h⟩
theorem run_ge (P : Nat → Bool) (len p : Nat) : p ≤ run P len p := (runF_le _ _).1
theorem run_le {P : Nat → Bool} {len p : Nat} (h : p ≤ len) : run P len p ≤ len := (runF_le _ _).2 h
def bl (tb : Nat → Nat) (j : Nat) : Bool := decide (tb j = 32)
def ltr (tb : Nat → Nat) (j : Nat) : Bool := decide (97 ≤ tb j ∧ tb j ≤ 122)
def dgt (tb : Nat → Nat) (j : Nat) : Bool := decide (48 ≤ tb j ∧ tb j ≤ 57)
/-- the word from b to e, as a token -/
def tkW (tb : Nat → Nat) (b e : Nat) : Int32 := if e - b = 1 then nI (tb b) else if e - b = 3 ∧ tb b = 110 ∧ tb (b + 1) = 111 ∧ tb (b + 2) = 116 then -3 else -4
/-- the number of m digits from b on -/
def nvl (tb : Nat → Nat) (b : Nat) : Nat → Int32
  | 0 => nI 0
  | 1 => nI (tb b - 48)
  | 2 => nI ((tb b - 48) * 10 + (tb (b + 1) - 48))
  | _ => nI 100
def nxA (tb : Nat → Nat) (len b : Nat) : Nat := if len ≤ b then b else if ltr tb b = true then run (ltr tb) len b else if dgt tb b = true then run (dgt tb) len b else b + 1
def nxT (tb : Nat → Nat) (len b : Nat) : Int32 := if len ≤ b then -1 else if ltr tb b = true then tkW tb b (run (ltr tb) len b) else if dgt tb b = true then -2 else nI (tb b)
def nxV (tb : Nat → Nat) (len b : Nat) (v : Int32) : Int32 := if len ≤ b then v else if ltr tb b = true then v else if dgt tb b = true then nvl tb b (run (dgt tb) len b - b) else v

/-- X7_isLetter -/
abbrev rm_c_X7_isLetter : Room := { frames := 0, cells := 0, slots := 0, locals := 0 }
set_option maxHeartbeats 4000000 in
set_option maxRecDepth 100000 in
theorem c_X7_isLetter (l : Launch) (G : GG) (z : Nat) (ad : Nat → Nat) (M : Mem) {ch : Nat}  (hch : ch < 256) : Met l yX7_isLetter wsX7_isLetter rm_c_X7_isLetter (Pr G z ad M [.int (nI ch)]) (vp_Si (fun r : Int32 => r = bI (decide (97 ≤ ch ∧ ch ≤ 122)))) 0 0 (fun _ => False) := by
  refine Met.ofW (cc := cX7_isLetter) (maxL := 1) (ret := (some .boolean)) (by decide) rfl ?_
  intro p e s m args below meth c s₁ B hml hv
  obtain ⟨rfl, hv⟩ := hv
  have hI := Iv.entry hv
  have hx := B.exec
  have hb := B.bytes
  have hr := B.returns
  have hts := atoms_spec (ws := wsX7_isLetter) B.pre
  have hown : s.vm.findClass RX7 = some m.cls := findClass_of_methodNamed B.named
  have hlocks := B.notSynchronized
  have hl := lv_entry ([.int (nI ch)]) (n := 1) (Nat.le_of_ble_eq_true rfl)
  rw [lg_entry_eq]
  generalize (lg_sl ([.int (nI ch)]) ++ List.replicate (1 - (lg_sl ([.int (nI ch)])).length) Slot.unset).toArray = ls at hl ⊢
  have hl : lv_has ls 1 [(0, .int (nI ch))] := hl
  refine lv_iload_n hx hb dX7_isLetter_0 rfl (lv_at hl 0 rfl) ?_
  refine lv_bipush (v := nI 97) hx hb dX7_isLetter_1 (by decide) ?_
  refine lv_icmp_lt (tgt := 16) hx hb dX7_isLetter_3 (by decide) (fun c_1 => ?_) (fun c_1 => ?_)
  · -- 3: nI ch lt
    have c_1 : ch < 97 := (nI_ltI (a := ch) (b := 97) (by omega) (by omega)).mp (c_1)
    refine lv_iconst (v := nI 0) hx hb dX7_isLetter_16 (by decide) ?_
    exact e_Ri hx hb hr rfl hlocks (dec_f (by omega)) dX7_isLetter_17
  · -- 3: nI ch ge
    have c_1 : 97 ≤ ch := by have h := mt (nI_ltI (a := ch) (b := 97) (by omega) (by omega)).mpr c_1; omega
    refine lv_iload_n hx hb dX7_isLetter_6 rfl (lv_at hl 0 rfl) ?_
    refine lv_bipush (v := nI 122) hx hb dX7_isLetter_7 (by decide) ?_
    refine lv_icmp_gt (tgt := 16) hx hb dX7_isLetter_9 (by decide) (fun c_2 => ?_) (fun c_2 => ?_)
    · -- 9: nI ch gt
      have c_2 : 122 < ch := (nI_ltI (a := 122) (b := ch) (by omega) (by omega)).mp (c_2)
      refine lv_iconst (v := nI 0) hx hb dX7_isLetter_16 (by decide) ?_
      exact e_Ri hx hb hr rfl hlocks (dec_f (by omega)) dX7_isLetter_17
    · -- 9: nI ch le
      have c_2 : ch ≤ 122 := by have h := mt (nI_ltI (a := 122) (b := ch) (by omega) (by omega)).mpr c_2; omega
      refine lv_iconst (v := nI 1) hx hb dX7_isLetter_12 (by decide) ?_
      refine lv_goto (tgt := 17) hx hb dX7_isLetter_13 (by decide) ?_
      exact e_Ri hx hb hr rfl hlocks (dec_t (by omega)) dX7_isLetter_17

/-- X7_isDigit -/
abbrev rm_c_X7_isDigit : Room := { frames := 0, cells := 0, slots := 0, locals := 0 }
set_option maxHeartbeats 4000000 in
set_option maxRecDepth 100000 in
theorem c_X7_isDigit (l : Launch) (G : GG) (z : Nat) (ad : Nat → Nat) (M : Mem) {ch : Nat}  (hch : ch < 256) : Met l yX7_isDigit wsX7_isDigit rm_c_X7_isDigit (Pr G z ad M [.int (nI ch)]) (vp_Si (fun r : Int32 => r = bI (decide (48 ≤ ch ∧ ch ≤ 57)))) 0 0 (fun _ => False) := by
  refine Met.ofW (cc := cX7_isDigit) (maxL := 1) (ret := (some .boolean)) (by decide) rfl ?_
  intro p e s m args below meth c s₁ B hml hv
  obtain ⟨rfl, hv⟩ := hv
  have hI := Iv.entry hv
  have hx := B.exec
  have hb := B.bytes
  have hr := B.returns
  have hts := atoms_spec (ws := wsX7_isDigit) B.pre
  have hown : s.vm.findClass RX7 = some m.cls := findClass_of_methodNamed B.named
  have hlocks := B.notSynchronized
  have hl := lv_entry ([.int (nI ch)]) (n := 1) (Nat.le_of_ble_eq_true rfl)
  rw [lg_entry_eq]
  generalize (lg_sl ([.int (nI ch)]) ++ List.replicate (1 - (lg_sl ([.int (nI ch)])).length) Slot.unset).toArray = ls at hl ⊢
  have hl : lv_has ls 1 [(0, .int (nI ch))] := hl
  refine lv_iload_n hx hb dX7_isDigit_0 rfl (lv_at hl 0 rfl) ?_
  refine lv_bipush (v := nI 48) hx hb dX7_isDigit_1 (by decide) ?_
  refine lv_icmp_lt (tgt := 16) hx hb dX7_isDigit_3 (by decide) (fun c_1 => ?_) (fun c_1 => ?_)
  · -- 3: nI ch lt
    have c_1 : ch < 48 := (nI_ltI (a := ch) (b := 48) (by omega) (by omega)).mp (c_1)
    refine lv_iconst (v := nI 0) hx hb dX7_isDigit_16 (by decide) ?_
    exact e_Ri hx hb hr rfl hlocks (dec_f (by omega)) dX7_isDigit_17
  · -- 3: nI ch ge
    have c_1 : 48 ≤ ch := by have h := mt (nI_ltI (a := ch) (b := 48) (by omega) (by omega)).mpr c_1; omega
    refine lv_iload_n hx hb dX7_isDigit_6 rfl (lv_at hl 0 rfl) ?_
    refine lv_bipush (v := nI 57) hx hb dX7_isDigit_7 (by decide) ?_
    refine lv_icmp_gt (tgt := 16) hx hb dX7_isDigit_9 (by decide) (fun c_2 => ?_) (fun c_2 => ?_)
    · -- 9: nI ch gt
      have c_2 : 57 < ch := (nI_ltI (a := 57) (b := ch) (by omega) (by omega)).mp (c_2)
      refine lv_iconst (v := nI 0) hx hb dX7_isDigit_16 (by decide) ?_
      exact e_Ri hx hb hr rfl hlocks (dec_f (by omega)) dX7_isDigit_17
    · -- 9: nI ch le
      have c_2 : ch ≤ 57 := by have h := mt (nI_ltI (a := 57) (b := ch) (by omega) (by omega)).mpr c_2; omega
      refine lv_iconst (v := nI 1) hx hb dX7_isDigit_12 (by decide) ?_
      refine lv_goto (tgt := 17) hx hb dX7_isDigit_13 (by decide) ?_
      exact e_Ri hx hb hr rfl hlocks (dec_t (by omega)) dX7_isDigit_17

/-- X7_begin -/
abbrev rm_c_X7_begin : Room := { frames := 0, cells := 0, slots := 0, locals := 0 }
set_option maxHeartbeats 4000000 in
set_option maxRecDepth 100000 in
theorem c_X7_begin (l : Launch) (G : GG) (z : Nat) (ad : Nat → Nat) (M : Mem) {aa : Nat} {bg : Nat} {tk : Int32} {vl : Int32} (h22 : M 22 = some (cReader ad aa bg tk vl))  : Met l yX7_begin wsX7_begin rm_c_X7_begin (Pr G z ad M [.ref (ad 22)]) (vp_Si (fun r : Int32 => r = nI bg)) 0 0 (fun _ => False) := by
  refine Met.ofW (cc := cX7_begin) (maxL := 1) (ret := (some .int)) (by decide) rfl ?_
  intro p e s m args below meth c s₁ B hml hv
  obtain ⟨rfl, hv⟩ := hv
  have hI := Iv.entry hv
  have hx := B.exec
  have hb := B.bytes
  have hr := B.returns
  have hts := atoms_spec (ws := wsX7_begin) B.pre
  have hown : s.vm.findClass RX7 = some m.cls := findClass_of_methodNamed B.named
  have hlocks := B.notSynchronized
  have i_RX7 : ∀ w ∈ u_ws RX7 TX7 4, w ∈ wsX7_begin := fun w h => List.mem_cons_of_mem _ (iu_X7 w h)
  have f_9 := hts _ (List.mem_cons_of_mem _ (lwg_of t_165 rfl))
  have hl := lv_entry ([.ref (ad 22)]) (n := 1) (Nat.le_of_ble_eq_true rfl)
  rw [lg_entry_eq]
  generalize (lg_sl ([.ref (ad 22)]) ++ List.replicate (1 - (lg_sl ([.ref (ad 22)])).length) Slot.unset).toArray = ls at hl ⊢
  have hl : lv_has ls 1 [(0, .ref (ad 22))] := hl
  refine lv_aload_n hx hb dX7_begin_0 rfl (lv_at hl 0 rfl) ?_
  refine h_get (C := RX7) (T := TX7) (N := 4) hx hb hts i_RX7 hown hI h22 rfl 1 (by decide) f_9 rfl rfl dX7_begin_1 ?_
  exact e_Ri hx hb hr rfl hlocks (rfl) dX7_begin_4

/-- X8_at -/
abbrev rm_c_X8_at_in : Room := { frames := 0, cells := 0, slots := 0, locals := 0 }
set_option maxHeartbeats 4000000 in
set_option maxRecDepth 100000 in
theorem c_X8_at_in (l : Launch) (G : GG) (z : Nat) (ad : Nat → Nat) (M : Mem) {len : Nat} {tb : Nat → Nat} {i : Nat} (h1 : M 1 = some (cTape ad len)) (h2 : M 2 = some (aI G 400 (nF tb))) (hl4 : len ≤ 400) (hi4 : i < len) : Met l yX8_at wsX8_at rm_c_X8_at_in (Pr G z ad M [.ref (ad 1), .int (nI i)]) (vp_Si (fun r : Int32 => r = nI (tb i))) 0 0 (fun _ => False) := by
  refine Met.ofW (cc := cX8_at) (maxL := 2) (ret := (some .int)) (by decide) rfl ?_
  intro p e s m args below meth c s₁ B hml hv
  obtain ⟨rfl, hv⟩ := hv
  have hI := Iv.entry hv
  have hx := B.exec
  have hb := B.bytes
  have hr := B.returns
  have hts := atoms_spec (ws := wsX8_at) B.pre
  have hown : s.vm.findClass RX8 = some m.cls := findClass_of_methodNamed B.named
  have hlocks := B.notSynchronized
  have i_RX8 : ∀ w ∈ u_ws RX8 TX8 2, w ∈ wsX8_at := fun w h => List.mem_cons_of_mem _ (iu_X8 w h)
  have f_15 := hts _ (List.mem_cons_of_mem _ (lwg_of t_48 rfl))
  have f_9 := hts _ (List.mem_cons_of_mem _ (lwg_of t_47 rfl))
  have hl := lv_entry ([.ref (ad 1), .int (nI i)]) (n := 2) (Nat.le_of_ble_eq_true rfl)
  rw [lg_entry_eq]
  generalize (lg_sl ([.ref (ad 1), .int (nI i)]) ++ List.replicate (2 - (lg_sl ([.ref (ad 1), .int (nI i)])).length) Slot.unset).toArray = ls at hl ⊢
  have hl : lv_has ls 2 [(0, .ref (ad 1)), (1, .int (nI i))] := hl
  refine lv_iload_n hx hb dX8_at_0 rfl (lv_at hl 1 rfl) ?_
  refine lv_if_lt (tgt := 21) hx hb dX8_at_1 (by decide) (fun c_1 => ?_) (fun c_1 => ?_)
  · -- 1: nI i lt
    have c_1 : i < 0 := (nI_ltI (a := i) (b := 0) (by omega) (by omega)).mp (c_1)
    omega
  · -- 1: nI i ge
    have c_1 : 0 ≤ i := by have h := mt (nI_ltI (a := i) (b := 0) (by omega) (by omega)).mpr c_1; omega
    refine lv_iload_n hx hb dX8_at_4 rfl (lv_at hl 1 rfl) ?_
    refine lv_aload_n hx hb dX8_at_5 rfl (lv_at hl 0 rfl) ?_
    refine h_get (C := RX8) (T := TX8) (N := 2) hx hb hts i_RX8 hown hI h1 rfl 1 (by decide) f_15 rfl rfl dX8_at_6 ?_
    refine lv_icmp_ge (tgt := 21) hx hb dX8_at_9 (by decide) (fun c_2 => ?_) (fun c_2 => ?_)
    · -- 9: nI i ge
      have c_2 : len ≤ i := (nI_leI (a := len) (b := i) (by omega) (by omega)).mp (c_2)
      omega
    · -- 9: nI i lt
      have c_2 : i < len := by have h := mt (nI_leI (a := len) (b := i) (by omega) (by omega)).mpr c_2; omega
      refine lv_aload_n hx hb dX8_at_12 rfl (lv_at hl 0 rfl) ?_
      refine h_get (C := RX8) (T := TX8) (N := 2) hx hb hts i_RX8 hown hI h1 rfl 0 (by decide) f_9 rfl rfl dX8_at_13 ?_
      refine lv_iload_n hx hb dX8_at_16 rfl (lv_at hl 1 rfl) ?_
      refine h_iald (i := i) hx hb hI h2 (by omega) (by decide) dX8_at_17 ?_
      refine lv_goto (tgt := 22) hx hb dX8_at_18 (by decide) ?_
      exact e_Ri hx hb hr rfl hlocks (rfl) dX8_at_22

/-- X8_at -/
abbrev rm_c_X8_at_out : Room := { frames := 0, cells := 0, slots := 0, locals := 0 }
set_option maxHeartbeats 4000000 in
set_option maxRecDepth 100000 in
theorem c_X8_at_out (l : Launch) (G : GG) (z : Nat) (ad : Nat → Nat) (M : Mem) {len : Nat} {tb : Nat → Nat} {i : Nat} (h1 : M 1 = some (cTape ad len)) (h2 : M 2 = some (aI G 400 (nF tb))) (hl4 : len ≤ 400) (hi4 : len ≤ i) (hi5 : i ≤ 400) : Met l yX8_at wsX8_at rm_c_X8_at_out (Pr G z ad M [.ref (ad 1), .int (nI i)]) (vp_Si (fun r : Int32 => r = -1)) 0 0 (fun _ => False) := by
  refine Met.ofW (cc := cX8_at) (maxL := 2) (ret := (some .int)) (by decide) rfl ?_
  intro p e s m args below meth c s₁ B hml hv
  obtain ⟨rfl, hv⟩ := hv
  have hI := Iv.entry hv
  have hx := B.exec
  have hb := B.bytes
  have hr := B.returns
  have hts := atoms_spec (ws := wsX8_at) B.pre
  have hown : s.vm.findClass RX8 = some m.cls := findClass_of_methodNamed B.named
  have hlocks := B.notSynchronized
  have i_RX8 : ∀ w ∈ u_ws RX8 TX8 2, w ∈ wsX8_at := fun w h => List.mem_cons_of_mem _ (iu_X8 w h)
  have f_15 := hts _ (List.mem_cons_of_mem _ (lwg_of t_48 rfl))
  have hl := lv_entry ([.ref (ad 1), .int (nI i)]) (n := 2) (Nat.le_of_ble_eq_true rfl)
  rw [lg_entry_eq]
  generalize (lg_sl ([.ref (ad 1), .int (nI i)]) ++ List.replicate (2 - (lg_sl ([.ref (ad 1), .int (nI i)])).length) Slot.unset).toArray = ls at hl ⊢
  have hl : lv_has ls 2 [(0, .ref (ad 1)), (1, .int (nI i))] := hl
  refine lv_iload_n hx hb dX8_at_0 rfl (lv_at hl 1 rfl) ?_
  refine lv_if_lt (tgt := 21) hx hb dX8_at_1 (by decide) (fun c_1 => ?_) (fun c_1 => ?_)
  · -- 1: nI i lt
    have c_1 : i < 0 := (nI_ltI (a := i) (b := 0) (by omega) (by omega)).mp (c_1)
    omega
  · -- 1: nI i ge
    have c_1 : 0 ≤ i := by have h := mt (nI_ltI (a := i) (b := 0) (by omega) (by omega)).mpr c_1; omega
    refine lv_iload_n hx hb dX8_at_4 rfl (lv_at hl 1 rfl) ?_
    refine lv_aload_n hx hb dX8_at_5 rfl (lv_at hl 0 rfl) ?_
    refine h_get (C := RX8) (T := TX8) (N := 2) hx hb hts i_RX8 hown hI h1 rfl 1 (by decide) f_15 rfl rfl dX8_at_6 ?_
    refine lv_icmp_ge (tgt := 21) hx hb dX8_at_9 (by decide) (fun c_2 => ?_) (fun c_2 => ?_)
    · -- 9: nI i ge
      have c_2 : len ≤ i := (nI_leI (a := len) (b := i) (by omega) (by omega)).mp (c_2)
      refine lv_iconst (v := (-1)) hx hb dX8_at_21 (by decide) ?_
      exact e_Ri hx hb hr rfl hlocks (rfl) dX8_at_22
    · -- 9: nI i lt
      have c_2 : i < len := by have h := mt (nI_leI (a := len) (b := i) (by omega) (by omega)).mpr c_2; omega
      omega

/-- X7_takeWord -/
abbrev rm_c_X7_takeWord : Room := { frames := 1, cells := 0, slots := 0, locals := 21 }
set_option maxHeartbeats 4000000 in
set_option maxRecDepth 100000 in
theorem c_X7_takeWord (l : Launch) (G : GG) (z : Nat) (ad : Nat → Nat) (M : Mem) {b : Nat} {tk : Int32} {vl : Int32} {len : Nat} {tb : Nat → Nat} (h22 : M 22 = some (cReader ad b b tk vl)) (h1 : M 1 = some (cTape ad len)) (h2 : M 2 = some (aI G 400 (nF tb))) (hl4 : len ≤ 400) (htb : ∀ j, j < len → tb j < 256) (hb9 : b < len) : Met l yX7_takeWord wsX7_takeWord rm_c_X7_takeWord (Pr G z ad M [.ref (ad 22), .ref (ad 1)]) (Nv G z ad (fun (M' : Mem) => M' 22 = some (cReader ad (run (ltr tb) len b) b (tkW tb b (run (ltr tb) len b)) vl) ∧ (∀ j : Nat, j ≠ 22 → M' j = M j))) 0 0 (fr z) := by
  refine Met.ofW (cc := cX7_takeWord) (maxL := 2) (ret := none) (by decide) rfl ?_
  intro p e s m args below meth c s₁ B hml hv
  obtain ⟨rfl, hv⟩ := hv
  have hI := Iv.entry hv
  have hx := B.exec
  have hb := B.bytes
  have hr := B.returns
  have hts := atoms_spec (ws := wsX7_takeWord) B.pre
  have hown : s.vm.findClass RX7 = some m.cls := findClass_of_methodNamed B.named
  have hlocks := B.notSynchronized
  have i_RX7 : ∀ w ∈ u_ws RX7 TX7 4, w ∈ wsX7_takeWord := fun w h => List.mem_cons_of_mem _ (iu_X7 w h)
  have f_15 := hts _ (List.mem_cons_of_mem _ (lwg_of t_164 rfl))
  have f_9 := hts _ (List.mem_cons_of_mem _ (lwg_of t_165 rfl))
  have f_31 := hts _ (List.mem_cons_of_mem _ (lwg_of t_166 rfl))
  have hl := lv_entry ([.ref (ad 22), .ref (ad 1)]) (n := 2) (Nat.le_of_ble_eq_true rfl)
  rw [lg_entry_eq]
  generalize (lg_sl ([.ref (ad 22), .ref (ad 1)]) ++ List.replicate (2 - (lg_sl ([.ref (ad 22), .ref (ad 1)])).length) Slot.unset).toArray = ls at hl ⊢
  have hl : lv_has ls 2 [(0, .ref (ad 22)), (1, .ref (ad 1))] := hl
  refine w_q (fun Q hQ => ?_)
  have lp0_1 : ∀ (fuel : Nat) (p9 : Nat) (Mx : Mem) (Hx : Heap) (locsx : List Loc) (ls : Array Slot), (len - p9) < fuel → (b ≤ p9 ∧ p9 ≤ len) → (run (ltr tb) len p9 = run (ltr tb) len b) → Iv G z ad Mx s Hx locsx → Mx 22 = some (cReader ad p9 b tk vl) → (∀ j : Nat, j ≠ 22 → Mx j = M j) → lv_has ls 2 [(0, .ref (ad 22)), (1, .ref (ad 1))] → W p l e (headSpec wsX7_takeWord rm_c_X7_takeWord).room s m ([.ref (ad 22), .ref (ad 1)] : List Value).toArray below meth c Hx locsx 0 0 Q (F0 m 0 ls []) := by
    intro fuel
    induction fuel with
    | zero => intro p9 Mx Hx locsx ls hfu hp hrn hI hm_2 hF_4 hl; exact absurd hfu (Nat.not_lt_zero _)
    | succ fuel ih_5 =>
      intro p9 Mx Hx locsx ls hfu hp hrn hI hm_2 hF_4 hl
      have hm_6 : Mx 1 = some (cTape ad len) := by rw [hF_4 1 (by omega)]; exact h1
      have hm_7 : Mx 2 = some (aI G 400 (nF tb)) := by rw [hF_4 2 (by omega)]; exact h2
      refine lv_aload_n hx hb dX7_takeWord_0 rfl (lv_at hl 0 rfl) ?_
      refine h_get (C := RX7) (T := TX7) (N := 4) hx hb hts i_RX7 hown hI hm_2 rfl 0 (by decide) f_15 rfl rfl dX7_takeWord_1 ?_
      refine lv_aload_n hx hb dX7_takeWord_4 rfl (lv_at hl 1 rfl) ?_
      refine k_Ri (va_runV (As := []) (rest := [.int (nI p9)]) ⟨hx, hb, hml, hown, hts⟩ (c_X8_length l G z ad Mx (len := len) hm_6) (cwV 0 hts (gV (lwg_of t_923 rfl) (lwg_of t_284 rfl) (lwg_of t_285 rfl) (lwg_of t_2 rfl) (lwg_of t_286 rfl)) rfl rfl rfl (by decide +kernel) ⟨Nat.le_of_ble_eq_true rfl, Nat.le_of_ble_eq_true rfl⟩) (hI.preV hm_6 rfl) rfl rfl hl.1 rfl (lv_room (Nat.le_of_ble_eq_true rfl)) dX7_takeWord_5 ⟨Nat.le_of_ble_eq_true rfl, Nat.le_of_ble_eq_true rfl⟩) (fun _ h => h) (fun r_8 hp_9 => ?_)
      rw [hp_9]
      refine lv_icmp_ge (tgt := 38) hx hb dX7_takeWord_8 (by decide) (fun c_10 => ?_) (fun c_10 => ?_)
      · -- 8: nI p9 ge
        have c_10 : len ≤ p9 := (nI_leI (a := len) (b := p9) (by omega) (by omega)).mp (c_10)
        have hend : run (ltr tb) len b = p9 := by rw [← hrn]; exact run_stop (fun h => by first | omega | exact absurd h.2 (by simp only [ltr]; simp_all))
        refine lv_aload_n hx hb dX7_takeWord_38 rfl (lv_at hl 0 rfl) ?_
        refine h_get (C := RX7) (T := TX7) (N := 4) hx hb hts i_RX7 hown hI hm_2 rfl 0 (by decide) f_15 rfl rfl dX7_takeWord_39 ?_
        refine lv_aload_n hx hb dX7_takeWord_42 rfl (lv_at hl 0 rfl) ?_
        refine h_get (C := RX7) (T := TX7) (N := 4) hx hb hts i_RX7 hown hI hm_2 rfl 1 (by decide) f_9 rfl rfl dX7_takeWord_43 ?_
        refine lv_isub hx hb dX7_takeWord_46 ?_
        refine n_eq (pk_sub (a := p9) (b := b) (by omega)) ?_
        refine lv_iconst (v := nI 1) hx hb dX7_takeWord_47 (by decide) ?_
        refine lv_icmp_ne (tgt := 66) hx hb dX7_takeWord_48 (by decide) (fun c_11 => ?_) (fun c_11 => ?_)
        · -- 48: nI (p9 - b) ne
          have c_11 : p9 - b ≠ 1 := by have h := mt (nI_eq (a := p9 - b) (b := 1) (by omega) (by omega)).mpr c_11; omega
          refine lv_aload_n hx hb dX7_takeWord_66 rfl (lv_at hl 0 rfl) ?_
          refine h_get (C := RX7) (T := TX7) (N := 4) hx hb hts i_RX7 hown hI hm_2 rfl 0 (by decide) f_15 rfl rfl dX7_takeWord_67 ?_
          refine lv_aload_n hx hb dX7_takeWord_70 rfl (lv_at hl 0 rfl) ?_
          refine h_get (C := RX7) (T := TX7) (N := 4) hx hb hts i_RX7 hown hI hm_2 rfl 1 (by decide) f_9 rfl rfl dX7_takeWord_71 ?_
          refine lv_isub hx hb dX7_takeWord_74 ?_
          refine n_eq (pk_sub (a := p9) (b := b) (by omega)) ?_
          refine lv_iconst (v := nI 3) hx hb dX7_takeWord_75 (by decide) ?_
          refine lv_icmp_ne (tgt := 131) hx hb dX7_takeWord_76 (by decide) (fun c_12 => ?_) (fun c_12 => ?_)
          · -- 76: nI (p9 - b) ne
            have c_12 : p9 - b ≠ 3 := by have h := mt (nI_eq (a := p9 - b) (b := 3) (by omega) (by omega)).mpr c_12; omega
            refine lv_aload_n hx hb dX7_takeWord_131 rfl (lv_at hl 0 rfl) ?_
            refine lv_bipush (v := (-4)) hx hb dX7_takeWord_132 (by decide) ?_
            refine h_put (C := RX7) (T := TX7) (N := 4) hx hb hts i_RX7 tyX7 tyX7_ok nmX7 hown hI hm_2 rfl 2 (by decide) f_31 rfl rfl rfl rfl (Nat.le_of_ble_eq_true rfl) dX7_takeWord_134 (fun M_13 H_14 locs_15 eM_16 hI => ?_)
            have hm_17 : M_13 1 = some (cTape ad len) := by rw [eM_16, va_up_ne _ _ (by decide)]; exact hm_6
            have hm_18 : M_13 2 = some (aI G 400 (nF tb)) := by rw [eM_16, va_up_ne _ _ (by decide)]; exact hm_7
            have hm_19 : M_13 22 = some (cReader ad p9 b (-4) vl) := by rw [eM_16]; exact va_up_self _ _ _
            have hF_20 : ∀ j : Nat, j ≠ 22 → M_13 j = M j := fun j q0 => by rw [eM_16, va_up_ne _ _ q0]; exact hF_4 j q0
            subst hQ
            exact e_Nv hx hb hr hlocks hI ⟨(by rw [hend]; rw [tkW, if_neg (by omega), if_neg (by omega)]; exact hm_19), (fun j q0 => hF_20 j q0)⟩ dX7_takeWord_137
          · -- 76: nI (p9 - b) eq
            have c_12 : p9 - b = 3 := (nI_eq (a := p9 - b) (b := 3) (by omega) (by omega)).mp (c_12)
            have ht0 := htb b (by omega)
            have ht1 := htb (b + 1) (by omega)
            have ht2 := htb (b + 2) (by omega)
            refine lv_aload_n hx hb dX7_takeWord_79 rfl (lv_at hl 1 rfl) ?_
            refine lv_aload_n hx hb dX7_takeWord_80 rfl (lv_at hl 0 rfl) ?_
            refine h_get (C := RX7) (T := TX7) (N := 4) hx hb hts i_RX7 hown hI hm_2 rfl 1 (by decide) f_9 rfl rfl dX7_takeWord_81 ?_
            refine k_Ri (va_runV (As := [.int (nI b)]) (rest := []) ⟨hx, hb, hml, hown, hts⟩ (c_X8_at_in l G z ad Mx (len := len) (tb := tb) (i := b) hm_6 hm_7 (by omega) (by omega)) (cwV 1 hts (gV (lwg_of t_924 rfl) (lwg_of t_925 rfl) (lwg_of t_926 rfl) (lwg_of t_2 rfl) (lwg_of t_927 rfl)) rfl rfl rfl (by decide +kernel) ⟨Nat.le_of_ble_eq_true rfl, Nat.le_of_ble_eq_true rfl⟩) (hI.preV hm_6 rfl) rfl rfl hl.1 rfl (lv_room (Nat.le_of_ble_eq_true rfl)) dX7_takeWord_84 ⟨Nat.le_of_ble_eq_true rfl, Nat.le_of_ble_eq_true rfl⟩) (fun _ h => h) (fun r_21 hp_22 => ?_)
            rw [hp_22]
            refine lv_bipush (v := nI 110) hx hb dX7_takeWord_87 (by decide) ?_
            refine lv_icmp_ne (tgt := 131) hx hb dX7_takeWord_89 (by decide) (fun c_23 => ?_) (fun c_23 => ?_)
            · -- 89: nI (tb b) ne
              have c_23 : tb b ≠ 110 := by have h := mt (nI_eq (a := tb b) (b := 110) (by omega) (by omega)).mpr c_23; omega
              refine lv_aload_n hx hb dX7_takeWord_131 rfl (lv_at hl 0 rfl) ?_
              refine lv_bipush (v := (-4)) hx hb dX7_takeWord_132 (by decide) ?_
              refine h_put (C := RX7) (T := TX7) (N := 4) hx hb hts i_RX7 tyX7 tyX7_ok nmX7 hown hI hm_2 rfl 2 (by decide) f_31 rfl rfl rfl rfl (Nat.le_of_ble_eq_true rfl) dX7_takeWord_134 (fun M_24 H_25 locs_26 eM_27 hI => ?_)
              have hm_28 : M_24 1 = some (cTape ad len) := by rw [eM_27, va_up_ne _ _ (by decide)]; exact hm_6
              have hm_29 : M_24 2 = some (aI G 400 (nF tb)) := by rw [eM_27, va_up_ne _ _ (by decide)]; exact hm_7
              have hm_30 : M_24 22 = some (cReader ad p9 b (-4) vl) := by rw [eM_27]; exact va_up_self _ _ _
              have hF_31 : ∀ j : Nat, j ≠ 22 → M_24 j = M j := fun j q0 => by rw [eM_27, va_up_ne _ _ q0]; exact hF_4 j q0
              subst hQ
              exact e_Nv hx hb hr hlocks hI ⟨(by rw [hend]; rw [tkW, if_neg (by omega), if_neg (by omega)]; exact hm_30), (fun j q0 => hF_31 j q0)⟩ dX7_takeWord_137
            · -- 89: nI (tb b) eq
              have c_23 : tb b = 110 := (nI_eq (a := tb b) (b := 110) (by omega) (by omega)).mp (c_23)
              refine lv_aload_n hx hb dX7_takeWord_92 rfl (lv_at hl 1 rfl) ?_
              refine lv_aload_n hx hb dX7_takeWord_93 rfl (lv_at hl 0 rfl) ?_
              refine h_get (C := RX7) (T := TX7) (N := 4) hx hb hts i_RX7 hown hI hm_2 rfl 1 (by decide) f_9 rfl rfl dX7_takeWord_94 ?_
              refine lv_iconst (v := nI 1) hx hb dX7_takeWord_97 (by decide) ?_
              refine lv_iadd hx hb dX7_takeWord_98 ?_
              refine n_eq (nI_add b 1) ?_
              refine k_Ri (va_runV (As := [.int (nI (b + 1))]) (rest := []) ⟨hx, hb, hml, hown, hts⟩ (c_X8_at_in l G z ad Mx (len := len) (tb := tb) (i := b + 1) hm_6 hm_7 (by omega) (by omega)) (cwV 1 hts (gV (lwg_of t_924 rfl) (lwg_of t_925 rfl) (lwg_of t_926 rfl) (lwg_of t_2 rfl) (lwg_of t_927 rfl)) rfl rfl rfl (by decide +kernel) ⟨Nat.le_of_ble_eq_true rfl, Nat.le_of_ble_eq_true rfl⟩) (hI.preV hm_6 rfl) rfl rfl hl.1 rfl (lv_room (Nat.le_of_ble_eq_true rfl)) dX7_takeWord_99 ⟨Nat.le_of_ble_eq_true rfl, Nat.le_of_ble_eq_true rfl⟩) (fun _ h => h) (fun r_32 hp_33 => ?_)
              rw [hp_33]
              refine lv_bipush (v := nI 111) hx hb dX7_takeWord_102 (by decide) ?_
              refine lv_icmp_ne (tgt := 131) hx hb dX7_takeWord_104 (by decide) (fun c_34 => ?_) (fun c_34 => ?_)
              · -- 104: nI (tb (b + 1)) ne
                have c_34 : tb (b + 1) ≠ 111 := by have h := mt (nI_eq (a := tb (b + 1)) (b := 111) (by omega) (by omega)).mpr c_34; omega
                refine lv_aload_n hx hb dX7_takeWord_131 rfl (lv_at hl 0 rfl) ?_
                refine lv_bipush (v := (-4)) hx hb dX7_takeWord_132 (by decide) ?_
                refine h_put (C := RX7) (T := TX7) (N := 4) hx hb hts i_RX7 tyX7 tyX7_ok nmX7 hown hI hm_2 rfl 2 (by decide) f_31 rfl rfl rfl rfl (Nat.le_of_ble_eq_true rfl) dX7_takeWord_134 (fun M_35 H_36 locs_37 eM_38 hI => ?_)
                have hm_39 : M_35 1 = some (cTape ad len) := by rw [eM_38, va_up_ne _ _ (by decide)]; exact hm_6
                have hm_40 : M_35 2 = some (aI G 400 (nF tb)) := by rw [eM_38, va_up_ne _ _ (by decide)]; exact hm_7
                have hm_41 : M_35 22 = some (cReader ad p9 b (-4) vl) := by rw [eM_38]; exact va_up_self _ _ _
                have hF_42 : ∀ j : Nat, j ≠ 22 → M_35 j = M j := fun j q0 => by rw [eM_38, va_up_ne _ _ q0]; exact hF_4 j q0
                subst hQ
                exact e_Nv hx hb hr hlocks hI ⟨(by rw [hend]; rw [tkW, if_neg (by omega), if_neg (by omega)]; exact hm_41), (fun j q0 => hF_42 j q0)⟩ dX7_takeWord_137
              · -- 104: nI (tb (b + 1)) eq
                have c_34 : tb (b + 1) = 111 := (nI_eq (a := tb (b + 1)) (b := 111) (by omega) (by omega)).mp (c_34)
                refine lv_aload_n hx hb dX7_takeWord_107 rfl (lv_at hl 1 rfl) ?_
                refine lv_aload_n hx hb dX7_takeWord_108 rfl (lv_at hl 0 rfl) ?_
                refine h_get (C := RX7) (T := TX7) (N := 4) hx hb hts i_RX7 hown hI hm_2 rfl 1 (by decide) f_9 rfl rfl dX7_takeWord_109 ?_
                refine lv_iconst (v := nI 2) hx hb dX7_takeWord_112 (by decide) ?_
                refine lv_iadd hx hb dX7_takeWord_113 ?_
                refine n_eq (nI_add b 2) ?_
                refine k_Ri (va_runV (As := [.int (nI (b + 2))]) (rest := []) ⟨hx, hb, hml, hown, hts⟩ (c_X8_at_in l G z ad Mx (len := len) (tb := tb) (i := b + 2) hm_6 hm_7 (by omega) (by omega)) (cwV 1 hts (gV (lwg_of t_924 rfl) (lwg_of t_925 rfl) (lwg_of t_926 rfl) (lwg_of t_2 rfl) (lwg_of t_927 rfl)) rfl rfl rfl (by decide +kernel) ⟨Nat.le_of_ble_eq_true rfl, Nat.le_of_ble_eq_true rfl⟩) (hI.preV hm_6 rfl) rfl rfl hl.1 rfl (lv_room (Nat.le_of_ble_eq_true rfl)) dX7_takeWord_114 ⟨Nat.le_of_ble_eq_true rfl, Nat.le_of_ble_eq_true rfl⟩) (fun _ h => h) (fun r_43 hp_44 => ?_)
                rw [hp_44]
                refine lv_bipush (v := nI 116) hx hb dX7_takeWord_117 (by decide) ?_
                refine lv_icmp_ne (tgt := 131) hx hb dX7_takeWord_119 (by decide) (fun c_45 => ?_) (fun c_45 => ?_)
                · -- 119: nI (tb (b + 2)) ne
                  have c_45 : tb (b + 2) ≠ 116 := by have h := mt (nI_eq (a := tb (b + 2)) (b := 116) (by omega) (by omega)).mpr c_45; omega
                  refine lv_aload_n hx hb dX7_takeWord_131 rfl (lv_at hl 0 rfl) ?_
                  refine lv_bipush (v := (-4)) hx hb dX7_takeWord_132 (by decide) ?_
                  refine h_put (C := RX7) (T := TX7) (N := 4) hx hb hts i_RX7 tyX7 tyX7_ok nmX7 hown hI hm_2 rfl 2 (by decide) f_31 rfl rfl rfl rfl (Nat.le_of_ble_eq_true rfl) dX7_takeWord_134 (fun M_46 H_47 locs_48 eM_49 hI => ?_)
                  have hm_50 : M_46 1 = some (cTape ad len) := by rw [eM_49, va_up_ne _ _ (by decide)]; exact hm_6
                  have hm_51 : M_46 2 = some (aI G 400 (nF tb)) := by rw [eM_49, va_up_ne _ _ (by decide)]; exact hm_7
                  have hm_52 : M_46 22 = some (cReader ad p9 b (-4) vl) := by rw [eM_49]; exact va_up_self _ _ _
                  have hF_53 : ∀ j : Nat, j ≠ 22 → M_46 j = M j := fun j q0 => by rw [eM_49, va_up_ne _ _ q0]; exact hF_4 j q0
                  subst hQ
                  exact e_Nv hx hb hr hlocks hI ⟨(by rw [hend]; rw [tkW, if_neg (by omega), if_neg (by omega)]; exact hm_52), (fun j q0 => hF_53 j q0)⟩ dX7_takeWord_137
                · -- 119: nI (tb (b + 2)) eq
                  have c_45 : tb (b + 2) = 116 := (nI_eq (a := tb (b + 2)) (b := 116) (by omega) (by omega)).mp (c_45)
                  refine lv_aload_n hx hb dX7_takeWord_122 rfl (lv_at hl 0 rfl) ?_
                  refine lv_bipush (v := (-3)) hx hb dX7_takeWord_123 (by decide) ?_
                  refine h_put (C := RX7) (T := TX7) (N := 4) hx hb hts i_RX7 tyX7 tyX7_ok nmX7 hown hI hm_2 rfl 2 (by decide) f_31 rfl rfl rfl rfl (Nat.le_of_ble_eq_true rfl) dX7_takeWord_125 (fun M_54 H_55 locs_56 eM_57 hI => ?_)
                  have hm_58 : M_54 1 = some (cTape ad len) := by rw [eM_57, va_up_ne _ _ (by decide)]; exact hm_6
                  have hm_59 : M_54 2 = some (aI G 400 (nF tb)) := by rw [eM_57, va_up_ne _ _ (by decide)]; exact hm_7
                  have hm_60 : M_54 22 = some (cReader ad p9 b (-3) vl) := by rw [eM_57]; exact va_up_self _ _ _
                  have hF_61 : ∀ j : Nat, j ≠ 22 → M_54 j = M j := fun j q0 => by rw [eM_57, va_up_ne _ _ q0]; exact hF_4 j q0
                  refine lv_goto (tgt := 137) hx hb dX7_takeWord_128 (by decide) ?_
                  subst hQ
                  exact e_Nv hx hb hr hlocks hI ⟨(by rw [hend]; rw [tkW, if_neg (by omega), if_pos (by omega)]; exact hm_60), (fun j q0 => hF_61 j q0)⟩ dX7_takeWord_137
        · -- 48: nI (p9 - b) eq
          have c_11 : p9 - b = 1 := (nI_eq (a := p9 - b) (b := 1) (by omega) (by omega)).mp (c_11)
          refine lv_aload_n hx hb dX7_takeWord_51 rfl (lv_at hl 0 rfl) ?_
          refine lv_aload_n hx hb dX7_takeWord_52 rfl (lv_at hl 1 rfl) ?_
          refine lv_aload_n hx hb dX7_takeWord_53 rfl (lv_at hl 0 rfl) ?_
          refine h_get (C := RX7) (T := TX7) (N := 4) hx hb hts i_RX7 hown hI hm_2 rfl 1 (by decide) f_9 rfl rfl dX7_takeWord_54 ?_
          refine k_Ri (va_runV (As := [.int (nI b)]) (rest := [.ref (ad 22)]) ⟨hx, hb, hml, hown, hts⟩ (c_X8_at_in l G z ad Mx (len := len) (tb := tb) (i := b) hm_6 hm_7 (by omega) (by omega)) (cwV 1 hts (gV (lwg_of t_924 rfl) (lwg_of t_925 rfl) (lwg_of t_926 rfl) (lwg_of t_2 rfl) (lwg_of t_927 rfl)) rfl rfl rfl (by decide +kernel) ⟨Nat.le_of_ble_eq_true rfl, Nat.le_of_ble_eq_true rfl⟩) (hI.preV hm_6 rfl) rfl rfl hl.1 rfl (lv_room (Nat.le_of_ble_eq_true rfl)) dX7_takeWord_57 ⟨Nat.le_of_ble_eq_true rfl, Nat.le_of_ble_eq_true rfl⟩) (fun _ h => h) (fun r_62 hp_63 => ?_)
          rw [hp_63]
          refine h_put (C := RX7) (T := TX7) (N := 4) hx hb hts i_RX7 tyX7 tyX7_ok nmX7 hown hI hm_2 rfl 2 (by decide) f_31 rfl rfl rfl rfl (Nat.le_of_ble_eq_true rfl) dX7_takeWord_60 (fun M_64 H_65 locs_66 eM_67 hI => ?_)
          have hm_68 : M_64 1 = some (cTape ad len) := by rw [eM_67, va_up_ne _ _ (by decide)]; exact hm_6
          have hm_69 : M_64 2 = some (aI G 400 (nF tb)) := by rw [eM_67, va_up_ne _ _ (by decide)]; exact hm_7
          have hm_70 : M_64 22 = some (cReader ad p9 b (nI (tb b)) vl) := by rw [eM_67]; exact va_up_self _ _ _
          have hF_71 : ∀ j : Nat, j ≠ 22 → M_64 j = M j := fun j q0 => by rw [eM_67, va_up_ne _ _ q0]; exact hF_4 j q0
          refine lv_goto (tgt := 137) hx hb dX7_takeWord_63 (by decide) ?_
          subst hQ
          exact e_Nv hx hb hr hlocks hI ⟨(by rw [hend]; rw [tkW, if_pos (by omega)]; exact hm_70), (fun j q0 => hF_71 j q0)⟩ dX7_takeWord_137
      · -- 8: nI p9 lt
        have c_10 : p9 < len := by have h := mt (nI_leI (a := len) (b := p9) (by omega) (by omega)).mpr c_10; omega
        refine lv_aload_n hx hb dX7_takeWord_11 rfl (lv_at hl 1 rfl) ?_
        refine lv_aload_n hx hb dX7_takeWord_12 rfl (lv_at hl 0 rfl) ?_
        refine h_get (C := RX7) (T := TX7) (N := 4) hx hb hts i_RX7 hown hI hm_2 rfl 0 (by decide) f_15 rfl rfl dX7_takeWord_13 ?_
        refine k_Ri (va_runV (As := [.int (nI p9)]) (rest := []) ⟨hx, hb, hml, hown, hts⟩ (c_X8_at_in l G z ad Mx (len := len) (tb := tb) (i := p9) hm_6 hm_7 (by omega) (by omega)) (cwV 1 hts (gV (lwg_of t_924 rfl) (lwg_of t_925 rfl) (lwg_of t_926 rfl) (lwg_of t_2 rfl) (lwg_of t_927 rfl)) rfl rfl rfl (by decide +kernel) ⟨Nat.le_of_ble_eq_true rfl, Nat.le_of_ble_eq_true rfl⟩) (hI.preV hm_6 rfl) rfl rfl hl.1 rfl (lv_room (Nat.le_of_ble_eq_true rfl)) dX7_takeWord_16 ⟨Nat.le_of_ble_eq_true rfl, Nat.le_of_ble_eq_true rfl⟩) (fun _ h => h) (fun r_72 hp_73 => ?_)
        rw [hp_73]
        refine k_Ri (va_runS (As := [.int (nI (tb p9))]) (rest := []) ⟨hx, hb, hml, hown, hts⟩ (c_X7_isLetter l G z ad Mx (ch := tb p9) (htb p9 (by omega))) (va_cwS 1 hts (gS (lwg_of t_928 rfl) (lwg_of t_929 rfl) (lwg_of t_10 rfl) (lwg_of t_930 rfl)) rfl rfl rfl (by decide +kernel) ⟨Nat.le_of_ble_eq_true rfl, Nat.le_of_ble_eq_true rfl⟩) hI.preS rfl rfl hl.1 rfl (lv_room (Nat.le_of_ble_eq_true rfl)) dX7_takeWord_19 ⟨Nat.le_of_ble_eq_true rfl, Nat.le_of_ble_eq_true rfl⟩) (fun _ h => h) (fun r_74 hp_75 => ?_)
        rw [hp_75]
        refine lv_if_eq (tgt := 38) hx hb dX7_takeWord_22 (by decide) (fun c_76 => ?_) (fun c_76 => ?_)
        · -- 22: bI (decide (97 ≤ (tb p9) ∧ (tb p9) ≤ 122)) eq
          have c_76 : decide (97 ≤ (tb p9) ∧ (tb p9) ≤ 122) = false := bI_f (c_76)
          have hend : run (ltr tb) len b = p9 := by rw [← hrn]; exact run_stop (fun h => by first | omega | exact absurd h.2 (by simp only [ltr]; simp_all))
          refine lv_aload_n hx hb dX7_takeWord_38 rfl (lv_at hl 0 rfl) ?_
          refine h_get (C := RX7) (T := TX7) (N := 4) hx hb hts i_RX7 hown hI hm_2 rfl 0 (by decide) f_15 rfl rfl dX7_takeWord_39 ?_
          refine lv_aload_n hx hb dX7_takeWord_42 rfl (lv_at hl 0 rfl) ?_
          refine h_get (C := RX7) (T := TX7) (N := 4) hx hb hts i_RX7 hown hI hm_2 rfl 1 (by decide) f_9 rfl rfl dX7_takeWord_43 ?_
          refine lv_isub hx hb dX7_takeWord_46 ?_
          refine n_eq (pk_sub (a := p9) (b := b) (by omega)) ?_
          refine lv_iconst (v := nI 1) hx hb dX7_takeWord_47 (by decide) ?_
          refine lv_icmp_ne (tgt := 66) hx hb dX7_takeWord_48 (by decide) (fun c_77 => ?_) (fun c_77 => ?_)
          · -- 48: nI (p9 - b) ne
            have c_77 : p9 - b ≠ 1 := by have h := mt (nI_eq (a := p9 - b) (b := 1) (by omega) (by omega)).mpr c_77; omega
            refine lv_aload_n hx hb dX7_takeWord_66 rfl (lv_at hl 0 rfl) ?_
            refine h_get (C := RX7) (T := TX7) (N := 4) hx hb hts i_RX7 hown hI hm_2 rfl 0 (by decide) f_15 rfl rfl dX7_takeWord_67 ?_
            refine lv_aload_n hx hb dX7_takeWord_70 rfl (lv_at hl 0 rfl) ?_
            refine h_get (C := RX7) (T := TX7) (N := 4) hx hb hts i_RX7 hown hI hm_2 rfl 1 (by decide) f_9 rfl rfl dX7_takeWord_71 ?_
            refine lv_isub hx hb dX7_takeWord_74 ?_
            refine n_eq (pk_sub (a := p9) (b := b) (by omega)) ?_
            refine lv_iconst (v := nI 3) hx hb dX7_takeWord_75 (by decide) ?_
            refine lv_icmp_ne (tgt := 131) hx hb dX7_takeWord_76 (by decide) (fun c_78 => ?_) (fun c_78 => ?_)
            · -- 76: nI (p9 - b) ne
              have c_78 : p9 - b ≠ 3 := by have h := mt (nI_eq (a := p9 - b) (b := 3) (by omega) (by omega)).mpr c_78; omega
              refine lv_aload_n hx hb dX7_takeWord_131 rfl (lv_at hl 0 rfl) ?_
              refine lv_bipush (v := (-4)) hx hb dX7_takeWord_132 (by decide) ?_
              refine h_put (C := RX7) (T := TX7) (N := 4) hx hb hts i_RX7 tyX7 tyX7_ok nmX7 hown hI hm_2 rfl 2 (by decide) f_31 rfl rfl rfl rfl (Nat.le_of_ble_eq_true rfl) dX7_takeWord_134 (fun M_79 H_80 locs_81 eM_82 hI => ?_)
              have hm_83 : M_79 1 = some (cTape ad len) := by rw [eM_82, va_up_ne _ _ (by decide)]; exact hm_6
              have hm_84 : M_79 2 = some (aI G 400 (nF tb)) := by rw [eM_82, va_up_ne _ _ (by decide)]; exact hm_7
              have hm_85 : M_79 22 = some (cReader ad p9 b (-4) vl) := by rw [eM_82]; exact va_up_self _ _ _
              have hF_86 : ∀ j : Nat, j ≠ 22 → M_79 j = M j := fun j q0 => by rw [eM_82, va_up_ne _ _ q0]; exact hF_4 j q0
              subst hQ
              exact e_Nv hx hb hr hlocks hI ⟨(by rw [hend]; rw [tkW, if_neg (by omega), if_neg (by omega)]; exact hm_85), (fun j q0 => hF_86 j q0)⟩ dX7_takeWord_137
            · -- 76: nI (p9 - b) eq
              have c_78 : p9 - b = 3 := (nI_eq (a := p9 - b) (b := 3) (by omega) (by omega)).mp (c_78)
              have ht0 := htb b (by omega)
              have ht1 := htb (b + 1) (by omega)
              have ht2 := htb (b + 2) (by omega)
              refine lv_aload_n hx hb dX7_takeWord_79 rfl (lv_at hl 1 rfl) ?_
              refine lv_aload_n hx hb dX7_takeWord_80 rfl (lv_at hl 0 rfl) ?_
              refine h_get (C := RX7) (T := TX7) (N := 4) hx hb hts i_RX7 hown hI hm_2 rfl 1 (by decide) f_9 rfl rfl dX7_takeWord_81 ?_
              refine k_Ri (va_runV (As := [.int (nI b)]) (rest := []) ⟨hx, hb, hml, hown, hts⟩ (c_X8_at_in l G z ad Mx (len := len) (tb := tb) (i := b) hm_6 hm_7 (by omega) (by omega)) (cwV 1 hts (gV (lwg_of t_924 rfl) (lwg_of t_925 rfl) (lwg_of t_926 rfl) (lwg_of t_2 rfl) (lwg_of t_927 rfl)) rfl rfl rfl (by decide +kernel) ⟨Nat.le_of_ble_eq_true rfl, Nat.le_of_ble_eq_true rfl⟩) (hI.preV hm_6 rfl) rfl rfl hl.1 rfl (lv_room (Nat.le_of_ble_eq_true rfl)) dX7_takeWord_84 ⟨Nat.le_of_ble_eq_true rfl, Nat.le_of_ble_eq_true rfl⟩) (fun _ h => h) (fun r_87 hp_88 => ?_)
              rw [hp_88]
              refine lv_bipush (v := nI 110) hx hb dX7_takeWord_87 (by decide) ?_
              refine lv_icmp_ne (tgt := 131) hx hb dX7_takeWord_89 (by decide) (fun c_89 => ?_) (fun c_89 => ?_)
              · -- 89: nI (tb b) ne
                have c_89 : tb b ≠ 110 := by have h := mt (nI_eq (a := tb b) (b := 110) (by omega) (by omega)).mpr c_89; omega
                refine lv_aload_n hx hb dX7_takeWord_131 rfl (lv_at hl 0 rfl) ?_
                refine lv_bipush (v := (-4)) hx hb dX7_takeWord_132 (by decide) ?_
                refine h_put (C := RX7) (T := TX7) (N := 4) hx hb hts i_RX7 tyX7 tyX7_ok nmX7 hown hI hm_2 rfl 2 (by decide) f_31 rfl rfl rfl rfl (Nat.le_of_ble_eq_true rfl) dX7_takeWord_134 (fun M_90 H_91 locs_92 eM_93 hI => ?_)
                have hm_94 : M_90 1 = some (cTape ad len) := by rw [eM_93, va_up_ne _ _ (by decide)]; exact hm_6
                have hm_95 : M_90 2 = some (aI G 400 (nF tb)) := by rw [eM_93, va_up_ne _ _ (by decide)]; exact hm_7
                have hm_96 : M_90 22 = some (cReader ad p9 b (-4) vl) := by rw [eM_93]; exact va_up_self _ _ _
                have hF_97 : ∀ j : Nat, j ≠ 22 → M_90 j = M j := fun j q0 => by rw [eM_93, va_up_ne _ _ q0]; exact hF_4 j q0
                subst hQ
                exact e_Nv hx hb hr hlocks hI ⟨(by rw [hend]; rw [tkW, if_neg (by omega), if_neg (by omega)]; exact hm_96), (fun j q0 => hF_97 j q0)⟩ dX7_takeWord_137
              · -- 89: nI (tb b) eq
                have c_89 : tb b = 110 := (nI_eq (a := tb b) (b := 110) (by omega) (by omega)).mp (c_89)
                refine lv_aload_n hx hb dX7_takeWord_92 rfl (lv_at hl 1 rfl) ?_
                refine lv_aload_n hx hb dX7_takeWord_93 rfl (lv_at hl 0 rfl) ?_
                refine h_get (C := RX7) (T := TX7) (N := 4) hx hb hts i_RX7 hown hI hm_2 rfl 1 (by decide) f_9 rfl rfl dX7_takeWord_94 ?_
                refine lv_iconst (v := nI 1) hx hb dX7_takeWord_97 (by decide) ?_
                refine lv_iadd hx hb dX7_takeWord_98 ?_
                refine n_eq (nI_add b 1) ?_
                refine k_Ri (va_runV (As := [.int (nI (b + 1))]) (rest := []) ⟨hx, hb, hml, hown, hts⟩ (c_X8_at_in l G z ad Mx (len := len) (tb := tb) (i := b + 1) hm_6 hm_7 (by omega) (by omega)) (cwV 1 hts (gV (lwg_of t_924 rfl) (lwg_of t_925 rfl) (lwg_of t_926 rfl) (lwg_of t_2 rfl) (lwg_of t_927 rfl)) rfl rfl rfl (by decide +kernel) ⟨Nat.le_of_ble_eq_true rfl, Nat.le_of_ble_eq_true rfl⟩) (hI.preV hm_6 rfl) rfl rfl hl.1 rfl (lv_room (Nat.le_of_ble_eq_true rfl)) dX7_takeWord_99 ⟨Nat.le_of_ble_eq_true rfl, Nat.le_of_ble_eq_true rfl⟩) (fun _ h => h) (fun r_98 hp_99 => ?_)
                rw [hp_99]
                refine lv_bipush (v := nI 111) hx hb dX7_takeWord_102 (by decide) ?_
                refine lv_icmp_ne (tgt := 131) hx hb dX7_takeWord_104 (by decide) (fun c_100 => ?_) (fun c_100 => ?_)
                · -- 104: nI (tb (b + 1)) ne
                  have c_100 : tb (b + 1) ≠ 111 := by have h := mt (nI_eq (a := tb (b + 1)) (b := 111) (by omega) (by omega)).mpr c_100; omega
                  refine lv_aload_n hx hb dX7_takeWord_131 rfl (lv_at hl 0 rfl) ?_
                  refine lv_bipush (v := (-4)) hx hb dX7_takeWord_132 (by decide) ?_
                  refine h_put (C := RX7) (T := TX7) (N := 4) hx hb hts i_RX7 tyX7 tyX7_ok nmX7 hown hI hm_2 rfl 2 (by decide) f_31 rfl rfl rfl rfl (Nat.le_of_ble_eq_true rfl) dX7_takeWord_134 (fun M_101 H_102 locs_103 eM_104 hI => ?_)
                  have hm_105 : M_101 1 = some (cTape ad len) := by rw [eM_104, va_up_ne _ _ (by decide)]; exact hm_6
                  have hm_106 : M_101 2 = some (aI G 400 (nF tb)) := by rw [eM_104, va_up_ne _ _ (by decide)]; exact hm_7
                  have hm_107 : M_101 22 = some (cReader ad p9 b (-4) vl) := by rw [eM_104]; exact va_up_self _ _ _
                  have hF_108 : ∀ j : Nat, j ≠ 22 → M_101 j = M j := fun j q0 => by rw [eM_104, va_up_ne _ _ q0]; exact hF_4 j q0
                  subst hQ
                  exact e_Nv hx hb hr hlocks hI ⟨(by rw [hend]; rw [tkW, if_neg (by omega), if_neg (by omega)]; exact hm_107), (fun j q0 => hF_108 j q0)⟩ dX7_takeWord_137
                · -- 104: nI (tb (b + 1)) eq
                  have c_100 : tb (b + 1) = 111 := (nI_eq (a := tb (b + 1)) (b := 111) (by omega) (by omega)).mp (c_100)
                  refine lv_aload_n hx hb dX7_takeWord_107 rfl (lv_at hl 1 rfl) ?_
                  refine lv_aload_n hx hb dX7_takeWord_108 rfl (lv_at hl 0 rfl) ?_
                  refine h_get (C := RX7) (T := TX7) (N := 4) hx hb hts i_RX7 hown hI hm_2 rfl 1 (by decide) f_9 rfl rfl dX7_takeWord_109 ?_
                  refine lv_iconst (v := nI 2) hx hb dX7_takeWord_112 (by decide) ?_
                  refine lv_iadd hx hb dX7_takeWord_113 ?_
                  refine n_eq (nI_add b 2) ?_
                  refine k_Ri (va_runV (As := [.int (nI (b + 2))]) (rest := []) ⟨hx, hb, hml, hown, hts⟩ (c_X8_at_in l G z ad Mx (len := len) (tb := tb) (i := b + 2) hm_6 hm_7 (by omega) (by omega)) (cwV 1 hts (gV (lwg_of t_924 rfl) (lwg_of t_925 rfl) (lwg_of t_926 rfl) (lwg_of t_2 rfl) (lwg_of t_927 rfl)) rfl rfl rfl (by decide +kernel) ⟨Nat.le_of_ble_eq_true rfl, Nat.le_of_ble_eq_true rfl⟩) (hI.preV hm_6 rfl) rfl rfl hl.1 rfl (lv_room (Nat.le_of_ble_eq_true rfl)) dX7_takeWord_114 ⟨Nat.le_of_ble_eq_true rfl, Nat.le_of_ble_eq_true rfl⟩) (fun _ h => h) (fun r_109 hp_110 => ?_)
                  rw [hp_110]
                  refine lv_bipush (v := nI 116) hx hb dX7_takeWord_117 (by decide) ?_
                  refine lv_icmp_ne (tgt := 131) hx hb dX7_takeWord_119 (by decide) (fun c_111 => ?_) (fun c_111 => ?_)
                  · -- 119: nI (tb (b + 2)) ne
                    have c_111 : tb (b + 2) ≠ 116 := by have h := mt (nI_eq (a := tb (b + 2)) (b := 116) (by omega) (by omega)).mpr c_111; omega
                    refine lv_aload_n hx hb dX7_takeWord_131 rfl (lv_at hl 0 rfl) ?_
                    refine lv_bipush (v := (-4)) hx hb dX7_takeWord_132 (by decide) ?_
                    refine h_put (C := RX7) (T := TX7) (N := 4) hx hb hts i_RX7 tyX7 tyX7_ok nmX7 hown hI hm_2 rfl 2 (by decide) f_31 rfl rfl rfl rfl (Nat.le_of_ble_eq_true rfl) dX7_takeWord_134 (fun M_112 H_113 locs_114 eM_115 hI => ?_)
                    have hm_116 : M_112 1 = some (cTape ad len) := by rw [eM_115, va_up_ne _ _ (by decide)]; exact hm_6
                    have hm_117 : M_112 2 = some (aI G 400 (nF tb)) := by rw [eM_115, va_up_ne _ _ (by decide)]; exact hm_7
                    have hm_118 : M_112 22 = some (cReader ad p9 b (-4) vl) := by rw [eM_115]; exact va_up_self _ _ _
                    have hF_119 : ∀ j : Nat, j ≠ 22 → M_112 j = M j := fun j q0 => by rw [eM_115, va_up_ne _ _ q0]; exact hF_4 j q0
                    subst hQ
                    exact e_Nv hx hb hr hlocks hI ⟨(by rw [hend]; rw [tkW, if_neg (by omega), if_neg (by omega)]; exact hm_118), (fun j q0 => hF_119 j q0)⟩ dX7_takeWord_137
                  · -- 119: nI (tb (b + 2)) eq
                    have c_111 : tb (b + 2) = 116 := (nI_eq (a := tb (b + 2)) (b := 116) (by omega) (by omega)).mp (c_111)
                    refine lv_aload_n hx hb dX7_takeWord_122 rfl (lv_at hl 0 rfl) ?_
                    refine lv_bipush (v := (-3)) hx hb dX7_takeWord_123 (by decide) ?_
                    refine h_put (C := RX7) (T := TX7) (N := 4) hx hb hts i_RX7 tyX7 tyX7_ok nmX7 hown hI hm_2 rfl 2 (by decide) f_31 rfl rfl rfl rfl (Nat.le_of_ble_eq_true rfl) dX7_takeWord_125 (fun M_120 H_121 locs_122 eM_123 hI => ?_)
                    have hm_124 : M_120 1 = some (cTape ad len) := by rw [eM_123, va_up_ne _ _ (by decide)]; exact hm_6
                    have hm_125 : M_120 2 = some (aI G 400 (nF tb)) := by rw [eM_123, va_up_ne _ _ (by decide)]; exact hm_7
                    have hm_126 : M_120 22 = some (cReader ad p9 b (-3) vl) := by rw [eM_123]; exact va_up_self _ _ _
                    have hF_127 : ∀ j : Nat, j ≠ 22 → M_120 j = M j := fun j q0 => by rw [eM_123, va_up_ne _ _ q0]; exact hF_4 j q0
                    refine lv_goto (tgt := 137) hx hb dX7_takeWord_128 (by decide) ?_
                    subst hQ
                    exact e_Nv hx hb hr hlocks hI ⟨(by rw [hend]; rw [tkW, if_neg (by omega), if_pos (by omega)]; exact hm_126), (fun j q0 => hF_127 j q0)⟩ dX7_takeWord_137
          · -- 48: nI (p9 - b) eq
            have c_77 : p9 - b = 1 := (nI_eq (a := p9 - b) (b := 1) (by omega) (by omega)).mp (c_77)
            refine lv_aload_n hx hb dX7_takeWord_51 rfl (lv_at hl 0 rfl) ?_
            refine lv_aload_n hx hb dX7_takeWord_52 rfl (lv_at hl 1 rfl) ?_
            refine lv_aload_n hx hb dX7_takeWord_53 rfl (lv_at hl 0 rfl) ?_
            refine h_get (C := RX7) (T := TX7) (N := 4) hx hb hts i_RX7 hown hI hm_2 rfl 1 (by decide) f_9 rfl rfl dX7_takeWord_54 ?_
            refine k_Ri (va_runV (As := [.int (nI b)]) (rest := [.ref (ad 22)]) ⟨hx, hb, hml, hown, hts⟩ (c_X8_at_in l G z ad Mx (len := len) (tb := tb) (i := b) hm_6 hm_7 (by omega) (by omega)) (cwV 1 hts (gV (lwg_of t_924 rfl) (lwg_of t_925 rfl) (lwg_of t_926 rfl) (lwg_of t_2 rfl) (lwg_of t_927 rfl)) rfl rfl rfl (by decide +kernel) ⟨Nat.le_of_ble_eq_true rfl, Nat.le_of_ble_eq_true rfl⟩) (hI.preV hm_6 rfl) rfl rfl hl.1 rfl (lv_room (Nat.le_of_ble_eq_true rfl)) dX7_takeWord_57 ⟨Nat.le_of_ble_eq_true rfl, Nat.le_of_ble_eq_true rfl⟩) (fun _ h => h) (fun r_128 hp_129 => ?_)
            rw [hp_129]
            refine h_put (C := RX7) (T := TX7) (N := 4) hx hb hts i_RX7 tyX7 tyX7_ok nmX7 hown hI hm_2 rfl 2 (by decide) f_31 rfl rfl rfl rfl (Nat.le_of_ble_eq_true rfl) dX7_takeWord_60 (fun M_130 H_131 locs_132 eM_133 hI => ?_)
            have hm_134 : M_130 1 = some (cTape ad len) := by rw [eM_133, va_up_ne _ _ (by decide)]; exact hm_6
            have hm_135 : M_130 2 = some (aI G 400 (nF tb)) := by rw [eM_133, va_up_ne _ _ (by decide)]; exact hm_7
            have hm_136 : M_130 22 = some (cReader ad p9 b (nI (tb b)) vl) := by rw [eM_133]; exact va_up_self _ _ _
            have hF_137 : ∀ j : Nat, j ≠ 22 → M_130 j = M j := fun j q0 => by rw [eM_133, va_up_ne _ _ q0]; exact hF_4 j q0
            refine lv_goto (tgt := 137) hx hb dX7_takeWord_63 (by decide) ?_
            subst hQ
            exact e_Nv hx hb hr hlocks hI ⟨(by rw [hend]; rw [tkW, if_pos (by omega)]; exact hm_136), (fun j q0 => hF_137 j q0)⟩ dX7_takeWord_137
        · -- 22: bI (decide (97 ≤ (tb p9) ∧ (tb p9) ≤ 122)) ne
          have c_76 : decide (97 ≤ (tb p9) ∧ (tb p9) ≤ 122) = true := bI_t (c_76)
          refine lv_aload_n hx hb dX7_takeWord_25 rfl (lv_at hl 0 rfl) ?_
          refine lv_dup hx hb dX7_takeWord_26 rfl ?_
          refine h_get (C := RX7) (T := TX7) (N := 4) hx hb hts i_RX7 hown hI hm_2 rfl 0 (by decide) f_15 rfl rfl dX7_takeWord_27 ?_
          refine lv_iconst (v := nI 1) hx hb dX7_takeWord_30 (by decide) ?_
          refine lv_iadd hx hb dX7_takeWord_31 ?_
          refine n_eq (nI_add p9 1) ?_
          refine h_put (C := RX7) (T := TX7) (N := 4) hx hb hts i_RX7 tyX7 tyX7_ok nmX7 hown hI hm_2 rfl 0 (by decide) f_15 rfl rfl rfl rfl (Nat.le_of_ble_eq_true rfl) dX7_takeWord_32 (fun M_138 H_139 locs_140 eM_141 hI => ?_)
          have hm_142 : M_138 1 = some (cTape ad len) := by rw [eM_141, va_up_ne _ _ (by decide)]; exact hm_6
          have hm_143 : M_138 2 = some (aI G 400 (nF tb)) := by rw [eM_141, va_up_ne _ _ (by decide)]; exact hm_7
          have hm_144 : M_138 22 = some (cReader ad (p9 + 1) b tk vl) := by rw [eM_141]; exact va_up_self _ _ _
          have hF_145 : ∀ j : Nat, j ≠ 22 → M_138 j = M j := fun j q0 => by rw [eM_141, va_up_ne _ _ q0]; exact hF_4 j q0
          refine lv_goto (tgt := 0) hx hb dX7_takeWord_35 (by decide) ?_
          exact ih_5 (p9 + 1) M_138 H_139 locs_140 ls (by omega) (by omega) (by rw [← hrn]; exact (run_go (by omega) (by assumption)).symm) hI hm_144 (fun j q0 => hF_145 j q0) (lv_sub hl [0, 1] rfl)
  exact lp0_1 ((len - b) + 1) b M s.heap [] ls (Nat.lt_succ_self _) (by omega) (rfl) hI h22 (fun j _ => rfl) (lv_sub hl [0, 1] rfl)

theorem nvl_s {tb : Nat → Nat} {b m : Nat} (hm : m < 2) (h48 : 48 ≤ tb (b + m)) : nvl tb b m * nI 10 + nI (tb (b + m)) - nI 48 = nvl tb b (m + 1) := by
  rcases (show m = 0 ∨ m = 1 by omega) with rfl | rfl
  · show nI 0 * nI 10 + nI (tb b) - nI 48 = nI (tb b - 48)
    have h : 48 ≤ tb b := h48
    rw [pk_mul, nI_add, pk_sub (by omega)]
    congr 1; omega
  · show nI (tb b - 48) * nI 10 + nI (tb (b + 1)) - nI 48 = nI ((tb b - 48) * 10 + (tb (b + 1) - 48))
    rw [pk_mul, nI_add, pk_sub (by omega)]
    congr 1; omega
theorem nvl_big {tb : Nat → Nat} {b m : Nat} (hm : 2 ≤ m) : nI 100 = nvl tb b (m + 1) := by
  obtain ⟨k, rfl⟩ : ∃ k, m = k + 2 := ⟨m - 2, by omega⟩
  rfl

/-- X7_takeNumber -/
abbrev rm_c_X7_takeNumber : Room := { frames := 1, cells := 0, slots := 0, locals := 21 }
set_option maxHeartbeats 4000000 in
set_option maxRecDepth 100000 in
theorem c_X7_takeNumber (l : Launch) (G : GG) (z : Nat) (ad : Nat → Nat) (M : Mem) {b : Nat} {tk : Int32} {vl : Int32} {len : Nat} {tb : Nat → Nat} (h22 : M 22 = some (cReader ad b b tk vl)) (h1 : M 1 = some (cTape ad len)) (h2 : M 2 = some (aI G 400 (nF tb))) (hl4 : len ≤ 400) (htb : ∀ j, j < len → tb j < 256) (hb9 : b < len) : Met l yX7_takeNumber wsX7_takeNumber rm_c_X7_takeNumber (Pr G z ad M [.ref (ad 22), .ref (ad 1)]) (Nv G z ad (fun (M' : Mem) => M' 22 = some (cReader ad (run (dgt tb) len b) b (-2) (nvl tb b (run (dgt tb) len b - b))) ∧ (∀ j : Nat, j ≠ 22 → M' j = M j))) 0 0 (fr z) := by
  refine Met.ofW (cc := cX7_takeNumber) (maxL := 2) (ret := none) (by decide) rfl ?_
  intro p e s m args below meth c s₁ B hml hv
  obtain ⟨rfl, hv⟩ := hv
  have hI := Iv.entry hv
  have hx := B.exec
  have hb := B.bytes
  have hr := B.returns
  have hts := atoms_spec (ws := wsX7_takeNumber) B.pre
  have hown : s.vm.findClass RX7 = some m.cls := findClass_of_methodNamed B.named
  have hlocks := B.notSynchronized
  have f_31 := hts _ (List.mem_cons_of_mem _ (lwg_of t_166 rfl))
  have i_RX7 : ∀ w ∈ u_ws RX7 TX7 4, w ∈ wsX7_takeNumber := fun w h => List.mem_cons_of_mem _ (iu_X7 w h)
  have f_38 := hts _ (List.mem_cons_of_mem _ (lwg_of t_167 rfl))
  have f_15 := hts _ (List.mem_cons_of_mem _ (lwg_of t_164 rfl))
  have f_9 := hts _ (List.mem_cons_of_mem _ (lwg_of t_165 rfl))
  have hl := lv_entry ([.ref (ad 22), .ref (ad 1)]) (n := 2) (Nat.le_of_ble_eq_true rfl)
  rw [lg_entry_eq]
  generalize (lg_sl ([.ref (ad 22), .ref (ad 1)]) ++ List.replicate (2 - (lg_sl ([.ref (ad 22), .ref (ad 1)])).length) Slot.unset).toArray = ls at hl ⊢
  have hl : lv_has ls 2 [(0, .ref (ad 22)), (1, .ref (ad 1))] := hl
  refine w_q (fun Q hQ => ?_)
  refine lv_aload_n hx hb dX7_takeNumber_0 rfl (lv_at hl 0 rfl) ?_
  refine lv_bipush (v := (-2)) hx hb dX7_takeNumber_1 (by decide) ?_
  refine h_put (C := RX7) (T := TX7) (N := 4) hx hb hts i_RX7 tyX7 tyX7_ok nmX7 hown hI h22 rfl 2 (by decide) f_31 rfl rfl rfl rfl (Nat.le_of_ble_eq_true rfl) dX7_takeNumber_3 (fun M_1 H_2 locs_3 eM_4 hI => ?_)
  have hm_5 : M_1 22 = some (cReader ad b b (-2) vl) := by rw [eM_4]; exact va_up_self _ _ _
  have hm_6 : M_1 1 = some (cTape ad len) := by rw [eM_4, va_up_ne _ _ (by decide)]; exact h1
  have hm_7 : M_1 2 = some (aI G 400 (nF tb)) := by rw [eM_4, va_up_ne _ _ (by decide)]; exact h2
  have hF_8 : ∀ j : Nat, j ≠ 22 → M_1 j = M j := fun j q0 => by rw [eM_4, va_up_ne _ _ q0]
  refine lv_aload_n hx hb dX7_takeNumber_6 rfl (lv_at hl 0 rfl) ?_
  refine lv_iconst (v := nI 0) hx hb dX7_takeNumber_7 (by decide) ?_
  refine h_put (C := RX7) (T := TX7) (N := 4) hx hb hts i_RX7 tyX7 tyX7_ok nmX7 hown hI hm_5 rfl 3 (by decide) f_38 rfl rfl rfl rfl (Nat.le_of_ble_eq_true rfl) dX7_takeNumber_8 (fun M_9 H_10 locs_11 eM_12 hI => ?_)
  have hm_13 : M_9 22 = some (cReader ad b b (-2) (nI 0)) := by rw [eM_12]; exact va_up_self _ _ _
  have hm_14 : M_9 1 = some (cTape ad len) := by rw [eM_12, va_up_ne _ _ (by decide)]; exact hm_6
  have hm_15 : M_9 2 = some (aI G 400 (nF tb)) := by rw [eM_12, va_up_ne _ _ (by decide)]; exact hm_7
  have hF_16 : ∀ j : Nat, j ≠ 22 → M_9 j = M j := fun j q0 => by rw [eM_12, va_up_ne _ _ q0]; exact hF_8 j q0
  have lp11_17 : ∀ (fuel : Nat) (p9 : Nat) (vx : Int32) (Mx : Mem) (Hx : Heap) (locsx : List Loc) (ls : Array Slot), (len - p9) < fuel → (b ≤ p9 ∧ p9 ≤ len) → (run (dgt tb) len p9 = run (dgt tb) len b) → (vx = nvl tb b (p9 - b)) → Iv G z ad Mx s Hx locsx → Mx 22 = some (cReader ad p9 b (-2) vx) → (∀ j : Nat, j ≠ 22 → Mx j = M j) → lv_has ls 2 [(0, .ref (ad 22)), (1, .ref (ad 1))] → W p l e (headSpec wsX7_takeNumber rm_c_X7_takeNumber).room s m ([.ref (ad 22), .ref (ad 1)] : List Value).toArray below meth c Hx locsx 0 0 Q (F0 m 11 ls []) := by
    intro fuel
    induction fuel with
    | zero => intro p9 vx Mx Hx locsx ls hfu hp hrn hvx hI hm_18 hF_20 hl; exact absurd hfu (Nat.not_lt_zero _)
    | succ fuel ih_21 =>
      intro p9 vx Mx Hx locsx ls hfu hp hrn hvx hI hm_18 hF_20 hl
      have hm_22 : Mx 1 = some (cTape ad len) := by rw [hF_20 1 (by omega)]; exact h1
      have hm_23 : Mx 2 = some (aI G 400 (nF tb)) := by rw [hF_20 2 (by omega)]; exact h2
      refine lv_aload_n hx hb dX7_takeNumber_11 rfl (lv_at hl 0 rfl) ?_
      refine h_get (C := RX7) (T := TX7) (N := 4) hx hb hts i_RX7 hown hI hm_18 rfl 0 (by decide) f_15 rfl rfl dX7_takeNumber_12 ?_
      refine lv_aload_n hx hb dX7_takeNumber_15 rfl (lv_at hl 1 rfl) ?_
      refine k_Ri (va_runV (As := []) (rest := [.int (nI p9)]) ⟨hx, hb, hml, hown, hts⟩ (c_X8_length l G z ad Mx (len := len) hm_22) (cwV 0 hts (gV (lwg_of t_923 rfl) (lwg_of t_284 rfl) (lwg_of t_285 rfl) (lwg_of t_2 rfl) (lwg_of t_286 rfl)) rfl rfl rfl (by decide +kernel) ⟨Nat.le_of_ble_eq_true rfl, Nat.le_of_ble_eq_true rfl⟩) (hI.preV hm_22 rfl) rfl rfl hl.1 rfl (lv_room (Nat.le_of_ble_eq_true rfl)) dX7_takeNumber_16 ⟨Nat.le_of_ble_eq_true rfl, Nat.le_of_ble_eq_true rfl⟩) (fun _ h => h) (fun r_24 hp_25 => ?_)
      rw [hp_25]
      refine lv_icmp_ge (tgt := 90) hx hb dX7_takeNumber_19 (by decide) (fun c_26 => ?_) (fun c_26 => ?_)
      · -- 19: nI p9 ge
        have c_26 : len ≤ p9 := (nI_leI (a := len) (b := p9) (by omega) (by omega)).mp (c_26)
        have hend : run (dgt tb) len b = p9 := by rw [← hrn]; exact run_stop (fun h => by first | omega | exact absurd h.2 (by simp only [dgt]; simp_all))
        subst hQ
        exact e_Nv hx hb hr hlocks hI ⟨(by rw [hend, ← hvx]; exact hm_18), (fun j q0 => hF_20 j q0)⟩ dX7_takeNumber_90
      · -- 19: nI p9 lt
        have c_26 : p9 < len := by have h := mt (nI_leI (a := len) (b := p9) (by omega) (by omega)).mpr c_26; omega
        refine lv_aload_n hx hb dX7_takeNumber_22 rfl (lv_at hl 1 rfl) ?_
        refine lv_aload_n hx hb dX7_takeNumber_23 rfl (lv_at hl 0 rfl) ?_
        refine h_get (C := RX7) (T := TX7) (N := 4) hx hb hts i_RX7 hown hI hm_18 rfl 0 (by decide) f_15 rfl rfl dX7_takeNumber_24 ?_
        refine k_Ri (va_runV (As := [.int (nI p9)]) (rest := []) ⟨hx, hb, hml, hown, hts⟩ (c_X8_at_in l G z ad Mx (len := len) (tb := tb) (i := p9) hm_22 hm_23 (by omega) (by omega)) (cwV 1 hts (gV (lwg_of t_924 rfl) (lwg_of t_925 rfl) (lwg_of t_926 rfl) (lwg_of t_2 rfl) (lwg_of t_927 rfl)) rfl rfl rfl (by decide +kernel) ⟨Nat.le_of_ble_eq_true rfl, Nat.le_of_ble_eq_true rfl⟩) (hI.preV hm_22 rfl) rfl rfl hl.1 rfl (lv_room (Nat.le_of_ble_eq_true rfl)) dX7_takeNumber_27 ⟨Nat.le_of_ble_eq_true rfl, Nat.le_of_ble_eq_true rfl⟩) (fun _ h => h) (fun r_27 hp_28 => ?_)
        rw [hp_28]
        refine k_Ri (va_runS (As := [.int (nI (tb p9))]) (rest := []) ⟨hx, hb, hml, hown, hts⟩ (c_X7_isDigit l G z ad Mx (ch := tb p9) (htb p9 (by omega))) (va_cwS 1 hts (gS (lwg_of t_935 rfl) (lwg_of t_936 rfl) (lwg_of t_10 rfl) (lwg_of t_937 rfl)) rfl rfl rfl (by decide +kernel) ⟨Nat.le_of_ble_eq_true rfl, Nat.le_of_ble_eq_true rfl⟩) hI.preS rfl rfl hl.1 rfl (lv_room (Nat.le_of_ble_eq_true rfl)) dX7_takeNumber_30 ⟨Nat.le_of_ble_eq_true rfl, Nat.le_of_ble_eq_true rfl⟩) (fun _ h => h) (fun r_29 hp_30 => ?_)
        rw [hp_30]
        refine lv_if_eq (tgt := 90) hx hb dX7_takeNumber_33 (by decide) (fun c_31 => ?_) (fun c_31 => ?_)
        · -- 33: bI (decide (48 ≤ (tb p9) ∧ (tb p9) ≤ 57)) eq
          have c_31 : decide (48 ≤ (tb p9) ∧ (tb p9) ≤ 57) = false := bI_f (c_31)
          have hend : run (dgt tb) len b = p9 := by rw [← hrn]; exact run_stop (fun h => by first | omega | exact absurd h.2 (by simp only [dgt]; simp_all))
          subst hQ
          exact e_Nv hx hb hr hlocks hI ⟨(by rw [hend, ← hvx]; exact hm_18), (fun j q0 => hF_20 j q0)⟩ dX7_takeNumber_90
        · -- 33: bI (decide (48 ≤ (tb p9) ∧ (tb p9) ≤ 57)) ne
          have c_31 : decide (48 ≤ (tb p9) ∧ (tb p9) ≤ 57) = true := bI_t (c_31)
          have hd9 := of_decide_eq_true (by assumption : decide (48 ≤ tb p9 ∧ tb p9 ≤ 57) = true)
          refine lv_aload_n hx hb dX7_takeNumber_36 rfl (lv_at hl 0 rfl) ?_
          refine lv_aload_n hx hb dX7_takeNumber_37 rfl (lv_at hl 0 rfl) ?_
          refine h_get (C := RX7) (T := TX7) (N := 4) hx hb hts i_RX7 hown hI hm_18 rfl 0 (by decide) f_15 rfl rfl dX7_takeNumber_38 ?_
          refine lv_aload_n hx hb dX7_takeNumber_41 rfl (lv_at hl 0 rfl) ?_
          refine h_get (C := RX7) (T := TX7) (N := 4) hx hb hts i_RX7 hown hI hm_18 rfl 1 (by decide) f_9 rfl rfl dX7_takeNumber_42 ?_
          refine lv_isub hx hb dX7_takeNumber_45 ?_
          refine n_eq (pk_sub (a := p9) (b := b) (by omega)) ?_
          refine lv_iconst (v := nI 2) hx hb dX7_takeNumber_46 (by decide) ?_
          refine lv_icmp_ge (tgt := 72) hx hb dX7_takeNumber_47 (by decide) (fun c_32 => ?_) (fun c_32 => ?_)
          · -- 47: nI (p9 - b) ge
            have c_32 : 2 ≤ p9 - b := (nI_leI (a := 2) (b := p9 - b) (by omega) (by omega)).mp (c_32)
            refine lv_bipush (v := nI 100) hx hb dX7_takeNumber_72 (by decide) ?_
            refine h_put (C := RX7) (T := TX7) (N := 4) hx hb hts i_RX7 tyX7 tyX7_ok nmX7 hown hI hm_18 rfl 3 (by decide) f_38 rfl rfl rfl rfl (Nat.le_of_ble_eq_true rfl) dX7_takeNumber_74 (fun M_33 H_34 locs_35 eM_36 hI => ?_)
            have hm_37 : M_33 1 = some (cTape ad len) := by rw [eM_36, va_up_ne _ _ (by decide)]; exact hm_22
            have hm_38 : M_33 2 = some (aI G 400 (nF tb)) := by rw [eM_36, va_up_ne _ _ (by decide)]; exact hm_23
            have hm_39 : M_33 22 = some (cReader ad p9 b (-2) (nI 100)) := by rw [eM_36]; exact va_up_self _ _ _
            have hF_40 : ∀ j : Nat, j ≠ 22 → M_33 j = M j := fun j q0 => by rw [eM_36, va_up_ne _ _ q0]; exact hF_20 j q0
            refine lv_aload_n hx hb dX7_takeNumber_77 rfl (lv_at hl 0 rfl) ?_
            refine lv_dup hx hb dX7_takeNumber_78 rfl ?_
            refine h_get (C := RX7) (T := TX7) (N := 4) hx hb hts i_RX7 hown hI hm_39 rfl 0 (by decide) f_15 rfl rfl dX7_takeNumber_79 ?_
            refine lv_iconst (v := nI 1) hx hb dX7_takeNumber_82 (by decide) ?_
            refine lv_iadd hx hb dX7_takeNumber_83 ?_
            refine n_eq (nI_add p9 1) ?_
            refine h_put (C := RX7) (T := TX7) (N := 4) hx hb hts i_RX7 tyX7 tyX7_ok nmX7 hown hI hm_39 rfl 0 (by decide) f_15 rfl rfl rfl rfl (Nat.le_of_ble_eq_true rfl) dX7_takeNumber_84 (fun M_41 H_42 locs_43 eM_44 hI => ?_)
            have hm_45 : M_41 1 = some (cTape ad len) := by rw [eM_44, va_up_ne _ _ (by decide)]; exact hm_37
            have hm_46 : M_41 2 = some (aI G 400 (nF tb)) := by rw [eM_44, va_up_ne _ _ (by decide)]; exact hm_38
            have hm_47 : M_41 22 = some (cReader ad (p9 + 1) b (-2) (nI 100)) := by rw [eM_44]; exact va_up_self _ _ _
            have hF_48 : ∀ j : Nat, j ≠ 22 → M_41 j = M j := fun j q0 => by rw [eM_44, va_up_ne _ _ q0]; exact hF_40 j q0
            refine lv_goto (tgt := 11) hx hb dX7_takeNumber_87 (by decide) ?_
            exact ih_21 (p9 + 1) (nI 100) M_41 H_42 locs_43 ls (by omega) (by omega) (by rw [← hrn]; exact (run_go (by omega) (by assumption)).symm) (by rw [show p9 + 1 - b = (p9 - b) + 1 by omega]; exact nvl_big (by omega)) hI hm_47 (fun j q0 => hF_48 j q0) (lv_sub hl [0, 1] rfl)
          · -- 47: nI (p9 - b) lt
            have c_32 : p9 - b < 2 := by have h := mt (nI_leI (a := 2) (b := p9 - b) (by omega) (by omega)).mpr c_32; omega
            refine lv_aload_n hx hb dX7_takeNumber_50 rfl (lv_at hl 0 rfl) ?_
            refine h_get (C := RX7) (T := TX7) (N := 4) hx hb hts i_RX7 hown hI hm_18 rfl 3 (by decide) f_38 rfl rfl dX7_takeNumber_51 ?_
            refine lv_bipush (v := nI 10) hx hb dX7_takeNumber_54 (by decide) ?_
            refine lv_imul hx hb dX7_takeNumber_56 ?_
            refine lv_aload_n hx hb dX7_takeNumber_57 rfl (lv_at hl 1 rfl) ?_
            refine lv_aload_n hx hb dX7_takeNumber_58 rfl (lv_at hl 0 rfl) ?_
            refine h_get (C := RX7) (T := TX7) (N := 4) hx hb hts i_RX7 hown hI hm_18 rfl 0 (by decide) f_15 rfl rfl dX7_takeNumber_59 ?_
            refine k_Ri (va_runV (As := [.int (nI p9)]) (rest := [.int (vx * (nI 10)), .ref (ad 22)]) ⟨hx, hb, hml, hown, hts⟩ (c_X8_at_in l G z ad Mx (len := len) (tb := tb) (i := p9) hm_22 hm_23 (by omega) (by omega)) (cwV 1 hts (gV (lwg_of t_924 rfl) (lwg_of t_925 rfl) (lwg_of t_926 rfl) (lwg_of t_2 rfl) (lwg_of t_927 rfl)) rfl rfl rfl (by decide +kernel) ⟨Nat.le_of_ble_eq_true rfl, Nat.le_of_ble_eq_true rfl⟩) (hI.preV hm_22 rfl) rfl rfl hl.1 rfl (lv_room (Nat.le_of_ble_eq_true rfl)) dX7_takeNumber_62 ⟨Nat.le_of_ble_eq_true rfl, Nat.le_of_ble_eq_true rfl⟩) (fun _ h => h) (fun r_49 hp_50 => ?_)
            rw [hp_50]
            refine lv_iadd hx hb dX7_takeNumber_65 ?_
            refine lv_bipush (v := nI 48) hx hb dX7_takeNumber_66 (by decide) ?_
            refine lv_isub hx hb dX7_takeNumber_68 ?_
            refine lv_goto (tgt := 74) hx hb dX7_takeNumber_69 (by decide) ?_
            refine h_put (C := RX7) (T := TX7) (N := 4) hx hb hts i_RX7 tyX7 tyX7_ok nmX7 hown hI hm_18 rfl 3 (by decide) f_38 rfl rfl rfl rfl (Nat.le_of_ble_eq_true rfl) dX7_takeNumber_74 (fun M_51 H_52 locs_53 eM_54 hI => ?_)
            have hm_55 : M_51 1 = some (cTape ad len) := by rw [eM_54, va_up_ne _ _ (by decide)]; exact hm_22
            have hm_56 : M_51 2 = some (aI G 400 (nF tb)) := by rw [eM_54, va_up_ne _ _ (by decide)]; exact hm_23
            have hm_57 : M_51 22 = some (cReader ad p9 b (-2) (((vx * (nI 10)) + (nI (tb p9))) - (nI 48))) := by rw [eM_54]; exact va_up_self _ _ _
            have hF_58 : ∀ j : Nat, j ≠ 22 → M_51 j = M j := fun j q0 => by rw [eM_54, va_up_ne _ _ q0]; exact hF_20 j q0
            refine lv_aload_n hx hb dX7_takeNumber_77 rfl (lv_at hl 0 rfl) ?_
            refine lv_dup hx hb dX7_takeNumber_78 rfl ?_
            refine h_get (C := RX7) (T := TX7) (N := 4) hx hb hts i_RX7 hown hI hm_57 rfl 0 (by decide) f_15 rfl rfl dX7_takeNumber_79 ?_
            refine lv_iconst (v := nI 1) hx hb dX7_takeNumber_82 (by decide) ?_
            refine lv_iadd hx hb dX7_takeNumber_83 ?_
            refine n_eq (nI_add p9 1) ?_
            refine h_put (C := RX7) (T := TX7) (N := 4) hx hb hts i_RX7 tyX7 tyX7_ok nmX7 hown hI hm_57 rfl 0 (by decide) f_15 rfl rfl rfl rfl (Nat.le_of_ble_eq_true rfl) dX7_takeNumber_84 (fun M_59 H_60 locs_61 eM_62 hI => ?_)
            have hm_63 : M_59 1 = some (cTape ad len) := by rw [eM_62, va_up_ne _ _ (by decide)]; exact hm_55
            have hm_64 : M_59 2 = some (aI G 400 (nF tb)) := by rw [eM_62, va_up_ne _ _ (by decide)]; exact hm_56
            have hm_65 : M_59 22 = some (cReader ad (p9 + 1) b (-2) (((vx * (nI 10)) + (nI (tb p9))) - (nI 48))) := by rw [eM_62]; exact va_up_self _ _ _
            have hF_66 : ∀ j : Nat, j ≠ 22 → M_59 j = M j := fun j q0 => by rw [eM_62, va_up_ne _ _ q0]; exact hF_58 j q0
            refine lv_goto (tgt := 11) hx hb dX7_takeNumber_87 (by decide) ?_
            exact ih_21 (p9 + 1) (((vx * (nI 10)) + (nI (tb p9))) - (nI 48)) M_59 H_60 locs_61 ls (by omega) (by omega) (by rw [← hrn]; exact (run_go (by omega) (by assumption)).symm) (by rw [hvx, show p9 + 1 - b = (p9 - b) + 1 by omega, ← nvl_s (tb := tb) (b := b) (m := p9 - b) (by omega) (by rw [show b + (p9 - b) = p9 by omega]; exact hd9.1), show b + (p9 - b) = p9 by omega]) hI hm_65 (fun j q0 => hF_66 j q0) (lv_sub hl [0, 1] rfl)
  exact lp11_17 ((len - b) + 1) b (nI 0) M_9 H_10 locs_11 ls (Nat.lt_succ_self _) (by omega) (rfl) (by rw [Nat.sub_self]; rfl) hI hm_13 (fun j q0 => hF_16 j q0) (lv_sub hl [0, 1] rfl)

section NX
variable {tb : Nat → Nat} {len b : Nat} {v : Int32}
theorem nx_o (h : len ≤ b) : nxA tb len b = b ∧ nxT tb len b = -1 ∧ nxV tb len b v = v := by simp only [nxA, nxT, nxV, if_pos h, and_self]
theorem nx_w (h : b < len) (h2 : decide (97 ≤ tb b ∧ tb b ≤ 122) = true) : nxA tb len b = run (ltr tb) len b ∧ nxT tb len b = tkW tb b (run (ltr tb) len b) ∧ nxV tb len b v = v := by
  have h1 : ¬ len ≤ b := by omega
  have h3 : ltr tb b = true := h2
  simp only [nxA, nxT, nxV, if_neg h1, if_pos h3, and_self]
theorem nx_n (h : b < len) (h2 : decide (97 ≤ tb b ∧ tb b ≤ 122) = false) (h4 : decide (48 ≤ tb b ∧ tb b ≤ 57) = true) : nxA tb len b = run (dgt tb) len b ∧ nxT tb len b = -2 ∧ nxV tb len b v = nvl tb b (run (dgt tb) len b - b) := by
  have h1 : ¬ len ≤ b := by omega
  have h3 : ¬ ltr tb b = true := by rw [ltr, h2]; exact Bool.false_ne_true
  have h5 : dgt tb b = true := h4
  simp only [nxA, nxT, nxV, if_neg h1, if_neg h3, if_pos h5, and_self]
theorem nx_s (h : b < len) (h2 : decide (97 ≤ tb b ∧ tb b ≤ 122) = false) (h4 : decide (48 ≤ tb b ∧ tb b ≤ 57) = false) : nxA tb len b = b + 1 ∧ nxT tb len b = nI (tb b) ∧ nxV tb len b v = v := by
  have h1 : ¬ len ≤ b := by omega
  have h3 : ¬ ltr tb b = true := by rw [ltr, h2]; exact Bool.false_ne_true
  have h5 : ¬ dgt tb b = true := by rw [dgt, h4]; exact Bool.false_ne_true
  simp only [nxA, nxT, nxV, if_neg h1, if_neg h3, if_neg h5, and_self]
end NX

/-- X7_next -/
abbrev rm_c_X7_next : Room := { frames := 2, cells := 0, slots := 0, locals := 42 }
set_option maxHeartbeats 4000000 in
set_option maxRecDepth 100000 in
theorem c_X7_next (l : Launch) (G : GG) (z : Nat) (ad : Nat → Nat) (M : Mem) {aa : Nat} {bg : Nat} {tk : Int32} {vl : Int32} {len : Nat} {tb : Nat → Nat} (h22 : M 22 = some (cReader ad aa bg tk vl)) (h1 : M 1 = some (cTape ad len)) (h2 : M 2 = some (aI G 400 (nF tb))) (hl4 : len ≤ 400) (htb : ∀ j, j < len → tb j < 256) (ha9 : aa ≤ len) : Met l yX7_next wsX7_next rm_c_X7_next (Pr G z ad M [.ref (ad 22), .ref (ad 1)]) (Nv G z ad (fun (M' : Mem) => M' 22 = some (cReader ad (nxA tb len (run (bl tb) len aa)) (run (bl tb) len aa) (nxT tb len (run (bl tb) len aa)) (nxV tb len (run (bl tb) len aa) vl)) ∧ (∀ j : Nat, j ≠ 22 → M' j = M j))) 0 0 (fr z) := by
  refine Met.ofW (cc := cX7_next) (maxL := 3) (ret := none) (by decide) rfl ?_
  intro p e s m args below meth c s₁ B hml hv
  obtain ⟨rfl, hv⟩ := hv
  have hI := Iv.entry hv
  have hx := B.exec
  have hb := B.bytes
  have hr := B.returns
  have hts := atoms_spec (ws := wsX7_next) B.pre
  have hown : s.vm.findClass RX7 = some m.cls := findClass_of_methodNamed B.named
  have hlocks := B.notSynchronized
  have i_RX7 : ∀ w ∈ u_ws RX7 TX7 4, w ∈ wsX7_next := fun w h => List.mem_cons_of_mem _ (iu_X7 w h)
  have f_15 := hts _ (List.mem_cons_of_mem _ (lwg_of t_164 rfl))
  have f_9 := hts _ (List.mem_cons_of_mem _ (lwg_of t_165 rfl))
  have f_31 := hts _ (List.mem_cons_of_mem _ (lwg_of t_166 rfl))
  have hl := lv_entry ([.ref (ad 22), .ref (ad 1)]) (n := 3) (Nat.le_of_ble_eq_true rfl)
  rw [lg_entry_eq]
  generalize (lg_sl ([.ref (ad 22), .ref (ad 1)]) ++ List.replicate (3 - (lg_sl ([.ref (ad 22), .ref (ad 1)])).length) Slot.unset).toArray = ls at hl ⊢
  have hl : lv_has ls 3 [(0, .ref (ad 22)), (1, .ref (ad 1))] := hl
  refine w_q (fun Q hQ => ?_)
  have lp0_1 : ∀ (fuel : Nat) (p9 : Nat) (Mx : Mem) (Hx : Heap) (locsx : List Loc) (ls : Array Slot), (len - p9) < fuel → (aa ≤ p9 ∧ p9 ≤ len) → (run (bl tb) len p9 = run (bl tb) len aa) → Iv G z ad Mx s Hx locsx → Mx 22 = some (cReader ad p9 bg tk vl) → (∀ j : Nat, j ≠ 22 → Mx j = M j) → lv_has ls 3 [(0, .ref (ad 22)), (1, .ref (ad 1))] → W p l e (headSpec wsX7_next rm_c_X7_next).room s m ([.ref (ad 22), .ref (ad 1)] : List Value).toArray below meth c Hx locsx 0 0 Q (F0 m 0 ls []) := by
    intro fuel
    induction fuel with
    | zero => intro p9 Mx Hx locsx ls hfu hp hrn hI hm_2 hF_4 hl; exact absurd hfu (Nat.not_lt_zero _)
    | succ fuel ih_5 =>
      intro p9 Mx Hx locsx ls hfu hp hrn hI hm_2 hF_4 hl
      have hm_6 : Mx 1 = some (cTape ad len) := by rw [hF_4 1 (by omega)]; exact h1
      have hm_7 : Mx 2 = some (aI G 400 (nF tb)) := by rw [hF_4 2 (by omega)]; exact h2
      refine lv_aload_n hx hb dX7_next_0 rfl (lv_at hl 0 rfl) ?_
      refine h_get (C := RX7) (T := TX7) (N := 4) hx hb hts i_RX7 hown hI hm_2 rfl 0 (by decide) f_15 rfl rfl dX7_next_1 ?_
      refine lv_aload_n hx hb dX7_next_4 rfl (lv_at hl 1 rfl) ?_
      refine k_Ri (va_runV (As := []) (rest := [.int (nI p9)]) ⟨hx, hb, hml, hown, hts⟩ (c_X8_length l G z ad Mx (len := len) hm_6) (cwV 0 hts (gV (lwg_of t_923 rfl) (lwg_of t_284 rfl) (lwg_of t_285 rfl) (lwg_of t_2 rfl) (lwg_of t_286 rfl)) rfl rfl rfl (by decide +kernel) ⟨Nat.le_of_ble_eq_true rfl, Nat.le_of_ble_eq_true rfl⟩) (hI.preV hm_6 rfl) rfl rfl hl.1 rfl (lv_room (Nat.le_of_ble_eq_true rfl)) dX7_next_5 ⟨Nat.le_of_ble_eq_true rfl, Nat.le_of_ble_eq_true rfl⟩) (fun _ h => h) (fun r_8 hp_9 => ?_)
      rw [hp_9]
      refine lv_icmp_ge (tgt := 37) hx hb dX7_next_8 (by decide) (fun c_10 => ?_) (fun c_10 => ?_)
      · -- 8: nI p9 ge
        have c_10 : len ≤ p9 := (nI_leI (a := len) (b := p9) (by omega) (by omega)).mp (c_10)
        have hend : run (bl tb) len aa = p9 := by rw [← hrn]; exact run_stop (fun h => by first | omega | exact absurd (of_decide_eq_true h.2) (by assumption))
        refine lv_aload_n hx hb dX7_next_37 rfl (lv_at hl 0 rfl) ?_
        refine lv_aload_n hx hb dX7_next_38 rfl (lv_at hl 0 rfl) ?_
        refine h_get (C := RX7) (T := TX7) (N := 4) hx hb hts i_RX7 hown hI hm_2 rfl 0 (by decide) f_15 rfl rfl dX7_next_39 ?_
        refine h_put (C := RX7) (T := TX7) (N := 4) hx hb hts i_RX7 tyX7 tyX7_ok nmX7 hown hI hm_2 rfl 1 (by decide) f_9 rfl rfl rfl rfl (Nat.le_of_ble_eq_true rfl) dX7_next_42 (fun M_11 H_12 locs_13 eM_14 hI => ?_)
        have hm_15 : M_11 1 = some (cTape ad len) := by rw [eM_14, va_up_ne _ _ (by decide)]; exact hm_6
        have hm_16 : M_11 2 = some (aI G 400 (nF tb)) := by rw [eM_14, va_up_ne _ _ (by decide)]; exact hm_7
        have hm_17 : M_11 22 = some (cReader ad p9 p9 tk vl) := by rw [eM_14]; exact va_up_self _ _ _
        have hF_18 : ∀ j : Nat, j ≠ 22 → M_11 j = M j := fun j q0 => by rw [eM_14, va_up_ne _ _ q0]; exact hF_4 j q0
        by_cases hc_19 : p9 < len
        · skip
          refine lv_aload_n hx hb dX7_next_45 rfl (lv_at hl 1 rfl) ?_
          refine lv_aload_n hx hb dX7_next_46 rfl (lv_at hl 0 rfl) ?_
          refine h_get (C := RX7) (T := TX7) (N := 4) hx hb hts i_RX7 hown hI hm_17 rfl 0 (by decide) f_15 rfl rfl dX7_next_47 ?_
          refine k_Ri (va_runV (As := [.int (nI p9)]) (rest := []) ⟨hx, hb, hml, hown, hts⟩ (c_X8_at_in l G z ad M_11 (len := len) (tb := tb) (i := p9) hm_15 hm_16 (by omega) (by omega)) (cwV 1 hts (gV (lwg_of t_924 rfl) (lwg_of t_925 rfl) (lwg_of t_926 rfl) (lwg_of t_2 rfl) (lwg_of t_927 rfl)) rfl rfl rfl (by decide +kernel) ⟨Nat.le_of_ble_eq_true rfl, Nat.le_of_ble_eq_true rfl⟩) (hI.preV hm_15 rfl) rfl rfl hl.1 rfl (lv_room (Nat.le_of_ble_eq_true rfl)) dX7_next_50 ⟨Nat.le_of_ble_eq_true rfl, Nat.le_of_ble_eq_true rfl⟩) (fun _ h => h) (fun r_20 hp_21 => ?_)
          rw [hp_21]
          refine lv_istore_n (lv' := [(2, .int (nI (tb p9))), (0, .ref (ad 22)), (1, .ref (ad 1))]) hx hb dX7_next_53 rfl hl (by decide) rfl (fun ls hl => ?_)
          refine lv_iload_n hx hb dX7_next_54 rfl (lv_at hl 0 rfl) ?_
          refine lv_iconst (v := (-1)) hx hb dX7_next_55 (by decide) ?_
          refine lv_icmp_ne (tgt := 67) hx hb dX7_next_56 (by decide) (fun c_22 => ?_) (fun c_22 => ?_)
          · -- 56: nI (tb p9) ne
            have ht8 := htb p9 (by omega)
            refine lv_iload_n hx hb dX7_next_67 rfl (lv_at hl 0 rfl) ?_
            refine k_Ri (va_runS (As := [.int (nI (tb p9))]) (rest := []) ⟨hx, hb, hml, hown, hts⟩ (c_X7_isLetter l G z ad M_11 (ch := tb p9) (htb p9 (by omega))) (va_cwS 1 hts (gS (lwg_of t_928 rfl) (lwg_of t_929 rfl) (lwg_of t_10 rfl) (lwg_of t_930 rfl)) rfl rfl rfl (by decide +kernel) ⟨Nat.le_of_ble_eq_true rfl, Nat.le_of_ble_eq_true rfl⟩) hI.preS rfl rfl hl.1 rfl (lv_room (Nat.le_of_ble_eq_true rfl)) dX7_next_68 ⟨Nat.le_of_ble_eq_true rfl, Nat.le_of_ble_eq_true rfl⟩) (fun _ h => h) (fun r_23 hp_24 => ?_)
            rw [hp_24]
            refine lv_if_eq (tgt := 82) hx hb dX7_next_71 (by decide) (fun c_25 => ?_) (fun c_25 => ?_)
            · -- 71: bI (decide (97 ≤ (tb p9) ∧ (tb p9) ≤ 122)) eq
              have c_25 : decide (97 ≤ (tb p9) ∧ (tb p9) ≤ 122) = false := bI_f (c_25)
              refine lv_iload_n hx hb dX7_next_82 rfl (lv_at hl 0 rfl) ?_
              refine k_Ri (va_runS (As := [.int (nI (tb p9))]) (rest := []) ⟨hx, hb, hml, hown, hts⟩ (c_X7_isDigit l G z ad M_11 (ch := tb p9) (htb p9 (by omega))) (va_cwS 1 hts (gS (lwg_of t_935 rfl) (lwg_of t_936 rfl) (lwg_of t_10 rfl) (lwg_of t_937 rfl)) rfl rfl rfl (by decide +kernel) ⟨Nat.le_of_ble_eq_true rfl, Nat.le_of_ble_eq_true rfl⟩) hI.preS rfl rfl hl.1 rfl (lv_room (Nat.le_of_ble_eq_true rfl)) dX7_next_83 ⟨Nat.le_of_ble_eq_true rfl, Nat.le_of_ble_eq_true rfl⟩) (fun _ h => h) (fun r_26 hp_27 => ?_)
              rw [hp_27]
              refine lv_if_eq (tgt := 97) hx hb dX7_next_86 (by decide) (fun c_28 => ?_) (fun c_28 => ?_)
              · -- 86: bI (decide (48 ≤ (tb p9) ∧ (tb p9) ≤ 57)) eq
                have c_28 : decide (48 ≤ (tb p9) ∧ (tb p9) ≤ 57) = false := bI_f (c_28)
                refine lv_aload_n hx hb dX7_next_97 rfl (lv_at hl 1 rfl) ?_
                refine lv_iload_n hx hb dX7_next_98 rfl (lv_at hl 0 rfl) ?_
                refine h_put (C := RX7) (T := TX7) (N := 4) hx hb hts i_RX7 tyX7 tyX7_ok nmX7 hown hI hm_17 rfl 2 (by decide) f_31 rfl rfl rfl rfl (Nat.le_of_ble_eq_true rfl) dX7_next_99 (fun M_29 H_30 locs_31 eM_32 hI => ?_)
                have hm_33 : M_29 1 = some (cTape ad len) := by rw [eM_32, va_up_ne _ _ (by decide)]; exact hm_15
                have hm_34 : M_29 2 = some (aI G 400 (nF tb)) := by rw [eM_32, va_up_ne _ _ (by decide)]; exact hm_16
                have hm_35 : M_29 22 = some (cReader ad p9 p9 (nI (tb p9)) vl) := by rw [eM_32]; exact va_up_self _ _ _
                have hF_36 : ∀ j : Nat, j ≠ 22 → M_29 j = M j := fun j q0 => by rw [eM_32, va_up_ne _ _ q0]; exact hF_18 j q0
                refine lv_aload_n hx hb dX7_next_102 rfl (lv_at hl 1 rfl) ?_
                refine lv_dup hx hb dX7_next_103 rfl ?_
                refine h_get (C := RX7) (T := TX7) (N := 4) hx hb hts i_RX7 hown hI hm_35 rfl 0 (by decide) f_15 rfl rfl dX7_next_104 ?_
                refine lv_iconst (v := nI 1) hx hb dX7_next_107 (by decide) ?_
                refine lv_iadd hx hb dX7_next_108 ?_
                refine n_eq (nI_add p9 1) ?_
                refine h_put (C := RX7) (T := TX7) (N := 4) hx hb hts i_RX7 tyX7 tyX7_ok nmX7 hown hI hm_35 rfl 0 (by decide) f_15 rfl rfl rfl rfl (Nat.le_of_ble_eq_true rfl) dX7_next_109 (fun M_37 H_38 locs_39 eM_40 hI => ?_)
                have hm_41 : M_37 1 = some (cTape ad len) := by rw [eM_40, va_up_ne _ _ (by decide)]; exact hm_33
                have hm_42 : M_37 2 = some (aI G 400 (nF tb)) := by rw [eM_40, va_up_ne _ _ (by decide)]; exact hm_34
                have hm_43 : M_37 22 = some (cReader ad (p9 + 1) p9 (nI (tb p9)) vl) := by rw [eM_40]; exact va_up_self _ _ _
                have hF_44 : ∀ j : Nat, j ≠ 22 → M_37 j = M j := fun j q0 => by rw [eM_40, va_up_ne _ _ q0]; exact hF_36 j q0
                subst hQ
                exact e_Nv hx hb hr hlocks hI ⟨(by obtain ⟨g1, g2, g3⟩ := nx_s (tb := tb) (len := len) (b := p9) (v := vl) (by omega) (by assumption) (by assumption); rw [hend, g1, g2, g3]; exact hm_43), (fun j q0 => hF_44 j q0)⟩ dX7_next_112
              · -- 86: bI (decide (48 ≤ (tb p9) ∧ (tb p9) ≤ 57)) ne
                have c_28 : decide (48 ≤ (tb p9) ∧ (tb p9) ≤ 57) = true := bI_t (c_28)
                refine lv_aload_n hx hb dX7_next_89 rfl (lv_at hl 1 rfl) ?_
                refine lv_aload_n hx hb dX7_next_90 rfl (lv_at hl 2 rfl) ?_
                refine k_Nv (va_runV (As := [.ref (ad 1)]) (rest := []) ⟨hx, hb, hml, hown, hts⟩ (c_X7_takeNumber l G z ad M_11 (b := p9) (tk := tk) (vl := vl) (len := len) (tb := tb) hm_17 hm_15 hm_16 (by omega) htb (by omega)) (cwV 1 hts (gV (lwg_of t_938 rfl) (lwg_of t_940 rfl) (lwg_of ts_18 rfl) (lwg_of t_10 rfl) (lwg_of t_941 rfl)) rfl rfl rfl (by decide +kernel) ⟨Nat.le_of_ble_eq_true rfl, Nat.le_of_ble_eq_true rfl⟩) (hI.preV hm_17 rfl) rfl rfl hl.1 rfl (lv_room (Nat.le_of_ble_eq_true rfl)) dX7_next_91 ⟨Nat.le_of_ble_eq_true rfl, Nat.le_of_ble_eq_true rfl⟩) hI (fun M_47 H_48 locs_49 hp_46 hI => ?_)
                obtain ⟨hm_50, hF_51⟩ := hp_46
                have hm_52 : M_47 1 = some (cTape ad len) := by rw [hF_51 1 (by omega)]; exact hm_15
                have hm_53 : M_47 2 = some (aI G 400 (nF tb)) := by rw [hF_51 2 (by omega)]; exact hm_16
                have hF_54 : ∀ j : Nat, j ≠ 22 → M_47 j = M j := fun j q0 => (hF_51 j q0).trans (hF_18 j q0)
                refine lv_goto (tgt := 112) hx hb dX7_next_94 (by decide) ?_
                subst hQ
                exact e_Nv hx hb hr hlocks hI ⟨(by obtain ⟨g1, g2, g3⟩ := nx_n (tb := tb) (len := len) (b := p9) (v := vl) (by omega) (by assumption) (by assumption); rw [hend, g1, g2, g3]; exact hm_50), (fun j q0 => hF_54 j q0)⟩ dX7_next_112
            · -- 71: bI (decide (97 ≤ (tb p9) ∧ (tb p9) ≤ 122)) ne
              have c_25 : decide (97 ≤ (tb p9) ∧ (tb p9) ≤ 122) = true := bI_t (c_25)
              refine lv_aload_n hx hb dX7_next_74 rfl (lv_at hl 1 rfl) ?_
              refine lv_aload_n hx hb dX7_next_75 rfl (lv_at hl 2 rfl) ?_
              refine k_Nv (va_runV (As := [.ref (ad 1)]) (rest := []) ⟨hx, hb, hml, hown, hts⟩ (c_X7_takeWord l G z ad M_11 (b := p9) (tk := tk) (vl := vl) (len := len) (tb := tb) hm_17 hm_15 hm_16 (by omega) htb (by omega)) (cwV 1 hts (gV (lwg_of t_931 rfl) (lwg_of t_933 rfl) (lwg_of ts_17 rfl) (lwg_of t_10 rfl) (lwg_of t_934 rfl)) rfl rfl rfl (by decide +kernel) ⟨Nat.le_of_ble_eq_true rfl, Nat.le_of_ble_eq_true rfl⟩) (hI.preV hm_17 rfl) rfl rfl hl.1 rfl (lv_room (Nat.le_of_ble_eq_true rfl)) dX7_next_76 ⟨Nat.le_of_ble_eq_true rfl, Nat.le_of_ble_eq_true rfl⟩) hI (fun M_57 H_58 locs_59 hp_56 hI => ?_)
              obtain ⟨hm_60, hF_61⟩ := hp_56
              have hm_62 : M_57 1 = some (cTape ad len) := by rw [hF_61 1 (by omega)]; exact hm_15
              have hm_63 : M_57 2 = some (aI G 400 (nF tb)) := by rw [hF_61 2 (by omega)]; exact hm_16
              have hF_64 : ∀ j : Nat, j ≠ 22 → M_57 j = M j := fun j q0 => (hF_61 j q0).trans (hF_18 j q0)
              refine lv_goto (tgt := 112) hx hb dX7_next_79 (by decide) ?_
              subst hQ
              exact e_Nv hx hb hr hlocks hI ⟨(by obtain ⟨g1, g2, g3⟩ := nx_w (tb := tb) (len := len) (b := p9) (v := vl) (by omega) (by assumption); rw [hend, g1, g2, g3]; exact hm_60), (fun j q0 => hF_64 j q0)⟩ dX7_next_112
          · -- 56: nI (tb p9) eq
            exact absurd (by assumption) (nI_m1 (by have := htb p9 (by omega); omega))
        · skip
          refine lv_aload_n hx hb dX7_next_45 rfl (lv_at hl 1 rfl) ?_
          refine lv_aload_n hx hb dX7_next_46 rfl (lv_at hl 0 rfl) ?_
          refine h_get (C := RX7) (T := TX7) (N := 4) hx hb hts i_RX7 hown hI hm_17 rfl 0 (by decide) f_15 rfl rfl dX7_next_47 ?_
          refine k_Ri (va_runV (As := [.int (nI p9)]) (rest := []) ⟨hx, hb, hml, hown, hts⟩ (c_X8_at_out l G z ad M_11 (len := len) (tb := tb) (i := p9) hm_15 hm_16 (by omega) (by omega) (by omega)) (cwV 1 hts (gV (lwg_of t_924 rfl) (lwg_of t_925 rfl) (lwg_of t_926 rfl) (lwg_of t_2 rfl) (lwg_of t_927 rfl)) rfl rfl rfl (by decide +kernel) ⟨Nat.le_of_ble_eq_true rfl, Nat.le_of_ble_eq_true rfl⟩) (hI.preV hm_15 rfl) rfl rfl hl.1 rfl (lv_room (Nat.le_of_ble_eq_true rfl)) dX7_next_50 ⟨Nat.le_of_ble_eq_true rfl, Nat.le_of_ble_eq_true rfl⟩) (fun _ h => h) (fun r_65 hp_66 => ?_)
          rw [hp_66]
          refine lv_istore_n (lv' := [(2, .int (-1)), (0, .ref (ad 22)), (1, .ref (ad 1))]) hx hb dX7_next_53 rfl hl (by decide) rfl (fun ls hl => ?_)
          refine lv_iload_n hx hb dX7_next_54 rfl (lv_at hl 0 rfl) ?_
          refine lv_iconst (v := (-1)) hx hb dX7_next_55 (by decide) ?_
          refine lv_icmp_ne (tgt := 67) hx hb dX7_next_56 (by decide) (fun c_67 => ?_) (fun c_67 => ?_)
          · -- 56: -1 ne
            exact absurd (by decide) c_67
          · -- 56: -1 eq
            refine lv_aload_n hx hb dX7_next_59 rfl (lv_at hl 1 rfl) ?_
            refine lv_iconst (v := (-1)) hx hb dX7_next_60 (by decide) ?_
            refine h_put (C := RX7) (T := TX7) (N := 4) hx hb hts i_RX7 tyX7 tyX7_ok nmX7 hown hI hm_17 rfl 2 (by decide) f_31 rfl rfl rfl rfl (Nat.le_of_ble_eq_true rfl) dX7_next_61 (fun M_68 H_69 locs_70 eM_71 hI => ?_)
            have hm_72 : M_68 1 = some (cTape ad len) := by rw [eM_71, va_up_ne _ _ (by decide)]; exact hm_15
            have hm_73 : M_68 2 = some (aI G 400 (nF tb)) := by rw [eM_71, va_up_ne _ _ (by decide)]; exact hm_16
            have hm_74 : M_68 22 = some (cReader ad p9 p9 (-1) vl) := by rw [eM_71]; exact va_up_self _ _ _
            have hF_75 : ∀ j : Nat, j ≠ 22 → M_68 j = M j := fun j q0 => by rw [eM_71, va_up_ne _ _ q0]; exact hF_18 j q0
            refine lv_goto (tgt := 112) hx hb dX7_next_64 (by decide) ?_
            subst hQ
            exact e_Nv hx hb hr hlocks hI ⟨(by obtain ⟨g1, g2, g3⟩ := nx_o (tb := tb) (len := len) (b := p9) (v := vl) (by omega); rw [hend, g1, g2, g3]; exact hm_74), (fun j q0 => hF_75 j q0)⟩ dX7_next_112
      · -- 8: nI p9 lt
        have c_10 : p9 < len := by have h := mt (nI_leI (a := len) (b := p9) (by omega) (by omega)).mpr c_10; omega
        refine lv_aload_n hx hb dX7_next_11 rfl (lv_at hl 1 rfl) ?_
        refine lv_aload_n hx hb dX7_next_12 rfl (lv_at hl 0 rfl) ?_
        refine h_get (C := RX7) (T := TX7) (N := 4) hx hb hts i_RX7 hown hI hm_2 rfl 0 (by decide) f_15 rfl rfl dX7_next_13 ?_
        refine k_Ri (va_runV (As := [.int (nI p9)]) (rest := []) ⟨hx, hb, hml, hown, hts⟩ (c_X8_at_in l G z ad Mx (len := len) (tb := tb) (i := p9) hm_6 hm_7 (by omega) (by omega)) (cwV 1 hts (gV (lwg_of t_924 rfl) (lwg_of t_925 rfl) (lwg_of t_926 rfl) (lwg_of t_2 rfl) (lwg_of t_927 rfl)) rfl rfl rfl (by decide +kernel) ⟨Nat.le_of_ble_eq_true rfl, Nat.le_of_ble_eq_true rfl⟩) (hI.preV hm_6 rfl) rfl rfl hl.1 rfl (lv_room (Nat.le_of_ble_eq_true rfl)) dX7_next_16 ⟨Nat.le_of_ble_eq_true rfl, Nat.le_of_ble_eq_true rfl⟩) (fun _ h => h) (fun r_76 hp_77 => ?_)
        rw [hp_77]
        have ht9 := htb p9 (by omega)
        refine lv_bipush (v := nI 32) hx hb dX7_next_19 (by decide) ?_
        refine lv_icmp_ne (tgt := 37) hx hb dX7_next_21 (by decide) (fun c_78 => ?_) (fun c_78 => ?_)
        · -- 21: nI (tb p9) ne
          have c_78 : tb p9 ≠ 32 := by have h := mt (nI_eq (a := tb p9) (b := 32) (by omega) (by omega)).mpr c_78; omega
          have hend : run (bl tb) len aa = p9 := by rw [← hrn]; exact run_stop (fun h => by first | omega | exact absurd (of_decide_eq_true h.2) (by assumption))
          refine lv_aload_n hx hb dX7_next_37 rfl (lv_at hl 0 rfl) ?_
          refine lv_aload_n hx hb dX7_next_38 rfl (lv_at hl 0 rfl) ?_
          refine h_get (C := RX7) (T := TX7) (N := 4) hx hb hts i_RX7 hown hI hm_2 rfl 0 (by decide) f_15 rfl rfl dX7_next_39 ?_
          refine h_put (C := RX7) (T := TX7) (N := 4) hx hb hts i_RX7 tyX7 tyX7_ok nmX7 hown hI hm_2 rfl 1 (by decide) f_9 rfl rfl rfl rfl (Nat.le_of_ble_eq_true rfl) dX7_next_42 (fun M_79 H_80 locs_81 eM_82 hI => ?_)
          have hm_83 : M_79 1 = some (cTape ad len) := by rw [eM_82, va_up_ne _ _ (by decide)]; exact hm_6
          have hm_84 : M_79 2 = some (aI G 400 (nF tb)) := by rw [eM_82, va_up_ne _ _ (by decide)]; exact hm_7
          have hm_85 : M_79 22 = some (cReader ad p9 p9 tk vl) := by rw [eM_82]; exact va_up_self _ _ _
          have hF_86 : ∀ j : Nat, j ≠ 22 → M_79 j = M j := fun j q0 => by rw [eM_82, va_up_ne _ _ q0]; exact hF_4 j q0
          by_cases hc_87 : p9 < len
          · skip
            refine lv_aload_n hx hb dX7_next_45 rfl (lv_at hl 1 rfl) ?_
            refine lv_aload_n hx hb dX7_next_46 rfl (lv_at hl 0 rfl) ?_
            refine h_get (C := RX7) (T := TX7) (N := 4) hx hb hts i_RX7 hown hI hm_85 rfl 0 (by decide) f_15 rfl rfl dX7_next_47 ?_
            refine k_Ri (va_runV (As := [.int (nI p9)]) (rest := []) ⟨hx, hb, hml, hown, hts⟩ (c_X8_at_in l G z ad M_79 (len := len) (tb := tb) (i := p9) hm_83 hm_84 (by omega) (by omega)) (cwV 1 hts (gV (lwg_of t_924 rfl) (lwg_of t_925 rfl) (lwg_of t_926 rfl) (lwg_of t_2 rfl) (lwg_of t_927 rfl)) rfl rfl rfl (by decide +kernel) ⟨Nat.le_of_ble_eq_true rfl, Nat.le_of_ble_eq_true rfl⟩) (hI.preV hm_83 rfl) rfl rfl hl.1 rfl (lv_room (Nat.le_of_ble_eq_true rfl)) dX7_next_50 ⟨Nat.le_of_ble_eq_true rfl, Nat.le_of_ble_eq_true rfl⟩) (fun _ h => h) (fun r_88 hp_89 => ?_)
            rw [hp_89]
            refine lv_istore_n (lv' := [(2, .int (nI (tb p9))), (0, .ref (ad 22)), (1, .ref (ad 1))]) hx hb dX7_next_53 rfl hl (by decide) rfl (fun ls hl => ?_)
            refine lv_iload_n hx hb dX7_next_54 rfl (lv_at hl 0 rfl) ?_
            refine lv_iconst (v := (-1)) hx hb dX7_next_55 (by decide) ?_
            refine lv_icmp_ne (tgt := 67) hx hb dX7_next_56 (by decide) (fun c_90 => ?_) (fun c_90 => ?_)
            · -- 56: nI (tb p9) ne
              have ht8 := htb p9 (by omega)
              refine lv_iload_n hx hb dX7_next_67 rfl (lv_at hl 0 rfl) ?_
              refine k_Ri (va_runS (As := [.int (nI (tb p9))]) (rest := []) ⟨hx, hb, hml, hown, hts⟩ (c_X7_isLetter l G z ad M_79 (ch := tb p9) (htb p9 (by omega))) (va_cwS 1 hts (gS (lwg_of t_928 rfl) (lwg_of t_929 rfl) (lwg_of t_10 rfl) (lwg_of t_930 rfl)) rfl rfl rfl (by decide +kernel) ⟨Nat.le_of_ble_eq_true rfl, Nat.le_of_ble_eq_true rfl⟩) hI.preS rfl rfl hl.1 rfl (lv_room (Nat.le_of_ble_eq_true rfl)) dX7_next_68 ⟨Nat.le_of_ble_eq_true rfl, Nat.le_of_ble_eq_true rfl⟩) (fun _ h => h) (fun r_91 hp_92 => ?_)
              rw [hp_92]
              refine lv_if_eq (tgt := 82) hx hb dX7_next_71 (by decide) (fun c_93 => ?_) (fun c_93 => ?_)
              · -- 71: bI (decide (97 ≤ (tb p9) ∧ (tb p9) ≤ 122)) eq
                have c_93 : decide (97 ≤ (tb p9) ∧ (tb p9) ≤ 122) = false := bI_f (c_93)
                refine lv_iload_n hx hb dX7_next_82 rfl (lv_at hl 0 rfl) ?_
                refine k_Ri (va_runS (As := [.int (nI (tb p9))]) (rest := []) ⟨hx, hb, hml, hown, hts⟩ (c_X7_isDigit l G z ad M_79 (ch := tb p9) (htb p9 (by omega))) (va_cwS 1 hts (gS (lwg_of t_935 rfl) (lwg_of t_936 rfl) (lwg_of t_10 rfl) (lwg_of t_937 rfl)) rfl rfl rfl (by decide +kernel) ⟨Nat.le_of_ble_eq_true rfl, Nat.le_of_ble_eq_true rfl⟩) hI.preS rfl rfl hl.1 rfl (lv_room (Nat.le_of_ble_eq_true rfl)) dX7_next_83 ⟨Nat.le_of_ble_eq_true rfl, Nat.le_of_ble_eq_true rfl⟩) (fun _ h => h) (fun r_94 hp_95 => ?_)
                rw [hp_95]
                refine lv_if_eq (tgt := 97) hx hb dX7_next_86 (by decide) (fun c_96 => ?_) (fun c_96 => ?_)
                · -- 86: bI (decide (48 ≤ (tb p9) ∧ (tb p9) ≤ 57)) eq
                  have c_96 : decide (48 ≤ (tb p9) ∧ (tb p9) ≤ 57) = false := bI_f (c_96)
                  refine lv_aload_n hx hb dX7_next_97 rfl (lv_at hl 1 rfl) ?_
                  refine lv_iload_n hx hb dX7_next_98 rfl (lv_at hl 0 rfl) ?_
                  refine h_put (C := RX7) (T := TX7) (N := 4) hx hb hts i_RX7 tyX7 tyX7_ok nmX7 hown hI hm_85 rfl 2 (by decide) f_31 rfl rfl rfl rfl (Nat.le_of_ble_eq_true rfl) dX7_next_99 (fun M_97 H_98 locs_99 eM_100 hI => ?_)
                  have hm_101 : M_97 1 = some (cTape ad len) := by rw [eM_100, va_up_ne _ _ (by decide)]; exact hm_83
                  have hm_102 : M_97 2 = some (aI G 400 (nF tb)) := by rw [eM_100, va_up_ne _ _ (by decide)]; exact hm_84
                  have hm_103 : M_97 22 = some (cReader ad p9 p9 (nI (tb p9)) vl) := by rw [eM_100]; exact va_up_self _ _ _
                  have hF_104 : ∀ j : Nat, j ≠ 22 → M_97 j = M j := fun j q0 => by rw [eM_100, va_up_ne _ _ q0]; exact hF_86 j q0
                  refine lv_aload_n hx hb dX7_next_102 rfl (lv_at hl 1 rfl) ?_
                  refine lv_dup hx hb dX7_next_103 rfl ?_
                  refine h_get (C := RX7) (T := TX7) (N := 4) hx hb hts i_RX7 hown hI hm_103 rfl 0 (by decide) f_15 rfl rfl dX7_next_104 ?_
                  refine lv_iconst (v := nI 1) hx hb dX7_next_107 (by decide) ?_
                  refine lv_iadd hx hb dX7_next_108 ?_
                  refine n_eq (nI_add p9 1) ?_
                  refine h_put (C := RX7) (T := TX7) (N := 4) hx hb hts i_RX7 tyX7 tyX7_ok nmX7 hown hI hm_103 rfl 0 (by decide) f_15 rfl rfl rfl rfl (Nat.le_of_ble_eq_true rfl) dX7_next_109 (fun M_105 H_106 locs_107 eM_108 hI => ?_)
                  have hm_109 : M_105 1 = some (cTape ad len) := by rw [eM_108, va_up_ne _ _ (by decide)]; exact hm_101
                  have hm_110 : M_105 2 = some (aI G 400 (nF tb)) := by rw [eM_108, va_up_ne _ _ (by decide)]; exact hm_102
                  have hm_111 : M_105 22 = some (cReader ad (p9 + 1) p9 (nI (tb p9)) vl) := by rw [eM_108]; exact va_up_self _ _ _
                  have hF_112 : ∀ j : Nat, j ≠ 22 → M_105 j = M j := fun j q0 => by rw [eM_108, va_up_ne _ _ q0]; exact hF_104 j q0
                  subst hQ
                  exact e_Nv hx hb hr hlocks hI ⟨(by obtain ⟨g1, g2, g3⟩ := nx_s (tb := tb) (len := len) (b := p9) (v := vl) (by omega) (by assumption) (by assumption); rw [hend, g1, g2, g3]; exact hm_111), (fun j q0 => hF_112 j q0)⟩ dX7_next_112
                · -- 86: bI (decide (48 ≤ (tb p9) ∧ (tb p9) ≤ 57)) ne
                  have c_96 : decide (48 ≤ (tb p9) ∧ (tb p9) ≤ 57) = true := bI_t (c_96)
                  refine lv_aload_n hx hb dX7_next_89 rfl (lv_at hl 1 rfl) ?_
                  refine lv_aload_n hx hb dX7_next_90 rfl (lv_at hl 2 rfl) ?_
                  refine k_Nv (va_runV (As := [.ref (ad 1)]) (rest := []) ⟨hx, hb, hml, hown, hts⟩ (c_X7_takeNumber l G z ad M_79 (b := p9) (tk := tk) (vl := vl) (len := len) (tb := tb) hm_85 hm_83 hm_84 (by omega) htb (by omega)) (cwV 1 hts (gV (lwg_of t_938 rfl) (lwg_of t_940 rfl) (lwg_of ts_18 rfl) (lwg_of t_10 rfl) (lwg_of t_941 rfl)) rfl rfl rfl (by decide +kernel) ⟨Nat.le_of_ble_eq_true rfl, Nat.le_of_ble_eq_true rfl⟩) (hI.preV hm_85 rfl) rfl rfl hl.1 rfl (lv_room (Nat.le_of_ble_eq_true rfl)) dX7_next_91 ⟨Nat.le_of_ble_eq_true rfl, Nat.le_of_ble_eq_true rfl⟩) hI (fun M_115 H_116 locs_117 hp_114 hI => ?_)
                  obtain ⟨hm_118, hF_119⟩ := hp_114
                  have hm_120 : M_115 1 = some (cTape ad len) := by rw [hF_119 1 (by omega)]; exact hm_83
                  have hm_121 : M_115 2 = some (aI G 400 (nF tb)) := by rw [hF_119 2 (by omega)]; exact hm_84
                  have hF_122 : ∀ j : Nat, j ≠ 22 → M_115 j = M j := fun j q0 => (hF_119 j q0).trans (hF_86 j q0)
                  refine lv_goto (tgt := 112) hx hb dX7_next_94 (by decide) ?_
                  subst hQ
                  exact e_Nv hx hb hr hlocks hI ⟨(by obtain ⟨g1, g2, g3⟩ := nx_n (tb := tb) (len := len) (b := p9) (v := vl) (by omega) (by assumption) (by assumption); rw [hend, g1, g2, g3]; exact hm_118), (fun j q0 => hF_122 j q0)⟩ dX7_next_112
              · -- 71: bI (decide (97 ≤ (tb p9) ∧ (tb p9) ≤ 122)) ne
                have c_93 : decide (97 ≤ (tb p9) ∧ (tb p9) ≤ 122) = true := bI_t (c_93)
                refine lv_aload_n hx hb dX7_next_74 rfl (lv_at hl 1 rfl) ?_
                refine lv_aload_n hx hb dX7_next_75 rfl (lv_at hl 2 rfl) ?_
                refine k_Nv (va_runV (As := [.ref (ad 1)]) (rest := []) ⟨hx, hb, hml, hown, hts⟩ (c_X7_takeWord l G z ad M_79 (b := p9) (tk := tk) (vl := vl) (len := len) (tb := tb) hm_85 hm_83 hm_84 (by omega) htb (by omega)) (cwV 1 hts (gV (lwg_of t_931 rfl) (lwg_of t_933 rfl) (lwg_of ts_17 rfl) (lwg_of t_10 rfl) (lwg_of t_934 rfl)) rfl rfl rfl (by decide +kernel) ⟨Nat.le_of_ble_eq_true rfl, Nat.le_of_ble_eq_true rfl⟩) (hI.preV hm_85 rfl) rfl rfl hl.1 rfl (lv_room (Nat.le_of_ble_eq_true rfl)) dX7_next_76 ⟨Nat.le_of_ble_eq_true rfl, Nat.le_of_ble_eq_true rfl⟩) hI (fun M_125 H_126 locs_127 hp_124 hI => ?_)
                obtain ⟨hm_128, hF_129⟩ := hp_124
                have hm_130 : M_125 1 = some (cTape ad len) := by rw [hF_129 1 (by omega)]; exact hm_83
                have hm_131 : M_125 2 = some (aI G 400 (nF tb)) := by rw [hF_129 2 (by omega)]; exact hm_84
                have hF_132 : ∀ j : Nat, j ≠ 22 → M_125 j = M j := fun j q0 => (hF_129 j q0).trans (hF_86 j q0)
                refine lv_goto (tgt := 112) hx hb dX7_next_79 (by decide) ?_
                subst hQ
                exact e_Nv hx hb hr hlocks hI ⟨(by obtain ⟨g1, g2, g3⟩ := nx_w (tb := tb) (len := len) (b := p9) (v := vl) (by omega) (by assumption); rw [hend, g1, g2, g3]; exact hm_128), (fun j q0 => hF_132 j q0)⟩ dX7_next_112
            · -- 56: nI (tb p9) eq
              exact absurd (by assumption) (nI_m1 (by have := htb p9 (by omega); omega))
          · skip
            refine lv_aload_n hx hb dX7_next_45 rfl (lv_at hl 1 rfl) ?_
            refine lv_aload_n hx hb dX7_next_46 rfl (lv_at hl 0 rfl) ?_
            refine h_get (C := RX7) (T := TX7) (N := 4) hx hb hts i_RX7 hown hI hm_85 rfl 0 (by decide) f_15 rfl rfl dX7_next_47 ?_
            refine k_Ri (va_runV (As := [.int (nI p9)]) (rest := []) ⟨hx, hb, hml, hown, hts⟩ (c_X8_at_out l G z ad M_79 (len := len) (tb := tb) (i := p9) hm_83 hm_84 (by omega) (by omega) (by omega)) (cwV 1 hts (gV (lwg_of t_924 rfl) (lwg_of t_925 rfl) (lwg_of t_926 rfl) (lwg_of t_2 rfl) (lwg_of t_927 rfl)) rfl rfl rfl (by decide +kernel) ⟨Nat.le_of_ble_eq_true rfl, Nat.le_of_ble_eq_true rfl⟩) (hI.preV hm_83 rfl) rfl rfl hl.1 rfl (lv_room (Nat.le_of_ble_eq_true rfl)) dX7_next_50 ⟨Nat.le_of_ble_eq_true rfl, Nat.le_of_ble_eq_true rfl⟩) (fun _ h => h) (fun r_133 hp_134 => ?_)
            rw [hp_134]
            refine lv_istore_n (lv' := [(2, .int (-1)), (0, .ref (ad 22)), (1, .ref (ad 1))]) hx hb dX7_next_53 rfl hl (by decide) rfl (fun ls hl => ?_)
            refine lv_iload_n hx hb dX7_next_54 rfl (lv_at hl 0 rfl) ?_
            refine lv_iconst (v := (-1)) hx hb dX7_next_55 (by decide) ?_
            refine lv_icmp_ne (tgt := 67) hx hb dX7_next_56 (by decide) (fun c_135 => ?_) (fun c_135 => ?_)
            · -- 56: -1 ne
              exact absurd (by decide) c_135
            · -- 56: -1 eq
              refine lv_aload_n hx hb dX7_next_59 rfl (lv_at hl 1 rfl) ?_
              refine lv_iconst (v := (-1)) hx hb dX7_next_60 (by decide) ?_
              refine h_put (C := RX7) (T := TX7) (N := 4) hx hb hts i_RX7 tyX7 tyX7_ok nmX7 hown hI hm_85 rfl 2 (by decide) f_31 rfl rfl rfl rfl (Nat.le_of_ble_eq_true rfl) dX7_next_61 (fun M_136 H_137 locs_138 eM_139 hI => ?_)
              have hm_140 : M_136 1 = some (cTape ad len) := by rw [eM_139, va_up_ne _ _ (by decide)]; exact hm_83
              have hm_141 : M_136 2 = some (aI G 400 (nF tb)) := by rw [eM_139, va_up_ne _ _ (by decide)]; exact hm_84
              have hm_142 : M_136 22 = some (cReader ad p9 p9 (-1) vl) := by rw [eM_139]; exact va_up_self _ _ _
              have hF_143 : ∀ j : Nat, j ≠ 22 → M_136 j = M j := fun j q0 => by rw [eM_139, va_up_ne _ _ q0]; exact hF_86 j q0
              refine lv_goto (tgt := 112) hx hb dX7_next_64 (by decide) ?_
              subst hQ
              exact e_Nv hx hb hr hlocks hI ⟨(by obtain ⟨g1, g2, g3⟩ := nx_o (tb := tb) (len := len) (b := p9) (v := vl) (by omega); rw [hend, g1, g2, g3]; exact hm_142), (fun j q0 => hF_143 j q0)⟩ dX7_next_112
        · -- 21: nI (tb p9) eq
          have c_78 : tb p9 = 32 := (nI_eq (a := tb p9) (b := 32) (by omega) (by omega)).mp (c_78)
          refine lv_aload_n hx hb dX7_next_24 rfl (lv_at hl 0 rfl) ?_
          refine lv_dup hx hb dX7_next_25 rfl ?_
          refine h_get (C := RX7) (T := TX7) (N := 4) hx hb hts i_RX7 hown hI hm_2 rfl 0 (by decide) f_15 rfl rfl dX7_next_26 ?_
          refine lv_iconst (v := nI 1) hx hb dX7_next_29 (by decide) ?_
          refine lv_iadd hx hb dX7_next_30 ?_
          refine n_eq (nI_add p9 1) ?_
          refine h_put (C := RX7) (T := TX7) (N := 4) hx hb hts i_RX7 tyX7 tyX7_ok nmX7 hown hI hm_2 rfl 0 (by decide) f_15 rfl rfl rfl rfl (Nat.le_of_ble_eq_true rfl) dX7_next_31 (fun M_144 H_145 locs_146 eM_147 hI => ?_)
          have hm_148 : M_144 1 = some (cTape ad len) := by rw [eM_147, va_up_ne _ _ (by decide)]; exact hm_6
          have hm_149 : M_144 2 = some (aI G 400 (nF tb)) := by rw [eM_147, va_up_ne _ _ (by decide)]; exact hm_7
          have hm_150 : M_144 22 = some (cReader ad (p9 + 1) bg tk vl) := by rw [eM_147]; exact va_up_self _ _ _
          have hF_151 : ∀ j : Nat, j ≠ 22 → M_144 j = M j := fun j q0 => by rw [eM_147, va_up_ne _ _ q0]; exact hF_4 j q0
          refine lv_goto (tgt := 0) hx hb dX7_next_34 (by decide) ?_
          exact ih_5 (p9 + 1) M_144 H_145 locs_146 ls (by omega) (by omega) (by rw [← hrn]; exact (run_go (by omega) (decide_eq_true (by assumption))).symm) hI hm_150 (fun j q0 => hF_151 j q0) (lv_sub hl [0, 1] rfl)
  exact lp0_1 ((len - aa) + 1) aa M s.heap [] ls (Nat.lt_succ_self _) (by omega) (rfl) hI h22 (fun j _ => rfl) (lv_sub hl [0, 1] rfl)
