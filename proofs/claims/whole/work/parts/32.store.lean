/-- the same cells under other places: what is left out is forgotten -/
theorem Hd.re {G : GG} {z : Nat} {ad ad' : Nat → Nat} {M M' : Mem} {H : Heap} (h : Hd G z ad M H) (f : Nat → Nat) (dom' : List Nat) (hn : dom'.Nodup) (hd' : ∀ k, k ∈ dom' ↔ M' k ≠ none) (hinj : ∀ i j, M' i ≠ none → M' j ≠ none → f i = f j → i = j) (hM : ∀ k, M' k ≠ none → M (f k) = M' k ∧ ad' k = ad (f k)) : Hd G z ad' M' H := by
  have hI := @Hd.inj G z ad M H h
  obtain ⟨dom, hnd, hd, hP, hD⟩ := h
  have key : ∀ (i : Nat) (q : Nat × va_E), (vwl ad' M' dom')[i]? = some q → ∃ k, dom'[i]? = some k ∧ ∃ q0 : Nat, (vwl ad M dom)[q0]? = some q ∧ q.1 = ad (f k) := by
    intro i q hq
    rw [vwl, List.getElem?_map] at hq
    cases hk : dom'[i]? with
    | none => rw [hk] at hq; cases hq
    | some k =>
      rw [hk] at hq
      cases hq
      have hk' := (hd' k).mp (List.mem_of_getElem? hk)
      obtain ⟨h1, h2⟩ := hM k hk'
      obtain ⟨e, he⟩ := Option.ne_none_iff_exists'.mp hk'
      obtain ⟨q0, -, h0⟩ := vwl_at (ad := ad) hd (k := f k) (e := e) (by rw [h1, he])
      refine ⟨k, rfl, q0, ?_, h2⟩
      rw [h0]
      show some (ad (f k), e) = some (ad' k, vcell M' k)
      rw [h2, vcell_of he]
  refine ⟨dom', hn, hd', fun i q hq => ?_, ⟨fun i j q r hq hr e => ?_, fun i q hq => ?_⟩⟩
  · obtain ⟨k, -, q0, h0, -⟩ := key i q hq
    exact hP q0 q h0
  · obtain ⟨k, hk, q0, h0, e0⟩ := key i q hq
    obtain ⟨k2, hk2, q2, h2, e2⟩ := key j r hr
    have hk' := (hd' k).mp (List.mem_of_getElem? hk)
    have hk2' := (hd' k2).mp (List.mem_of_getElem? hk2)
    obtain ⟨x, hx⟩ := Option.ne_none_iff_exists'.mp hk'
    obtain ⟨y, hy⟩ := Option.ne_none_iff_exists'.mp hk2'
    have := hinj k k2 hk' hk2' (hI (j := f k) (k := f k2) (by rw [(hM k hk').1]; exact hx) (by rw [(hM k2 hk2').1]; exact hy) (by rw [← e0, ← e2]; exact e))
    subst this
    have hl := (List.getElem?_eq_some_iff.mp hk).1
    have hl2 := (List.getElem?_eq_some_iff.mp hk2).1
    have e1 : dom'[i] = k := (List.getElem?_eq_some_iff.mp hk).2
    have e2 : dom'[j] = k := (List.getElem?_eq_some_iff.mp hk2).2
    have hp := List.pairwise_iff_getElem.mp hn
    rcases Nat.lt_trichotomy i j with h9 | h9 | h9
    · exact absurd (e1.trans e2.symm) (hp i j hl hl2 h9)
    · exact h9
    · exact absurd (e2.trans e1.symm) (hp j i hl2 hl h9)
  · obtain ⟨k, -, q0, h0, -⟩ := key i q hq
    exact hD.2 q0 q h0
theorem Hd.dom {G : GG} {z : Nat} {ad : Nat → Nat} {M : Mem} {H : Heap} (h : Hd G z ad M H) : ∃ dom : List Nat, dom.Nodup ∧ ∀ k, k ∈ dom ↔ M k ≠ none := by
  obtain ⟨dom, h1, h2, -⟩ := h
  exact ⟨dom, h1, h2⟩
/-- places that are not p any more -/
def fgt (M : Mem) (p : Nat → Bool) : Mem := fun k => if p k = true then none else M k
theorem hd_fgt {G : GG} {z : Nat} {ad : Nat → Nat} {M : Mem} {H : Heap} (h : Hd G z ad M H) (p : Nat → Bool) : Hd G z ad (fgt M p) H := by
  obtain ⟨dom, h1, h2⟩ := h.dom
  refine h.re id (dom.filter (fun k => !p k)) (h1.sublist List.filter_sublist) (fun k => ?_) (fun i j _ _ e => e) (fun k hk => ?_)
  · rw [List.mem_filter, h2 k]
    simp only [fgt]
    cases p k <;> simp
  · simp only [fgt] at hk ⊢
    cases hp : p k with
    | true => rw [hp, if_pos rfl] at hk; exact absurd rfl hk
    | false => exact ⟨rfl, rfl⟩
section CP
variable {p : Program} {l : Launch} {e : Env} {R : Room} {s : State} {m : MethodId} {args : Array Value} {below : List Frame} {meth : Method} {c : Code} {H : Heap} {locs : List Loc} {cells slots : Nat} {Q : State → Prop}
variable {G : GG} {z : Nat} {ad : Nat → Nat} {M : Mem} {cc : ByteArray} {pc : Nat} {ls : Array Slot} {rest : List Value}
theorem h_copyi (hx : p.tables.exec = Jvm.exec) (hb : c.code = cc) (hml : c.maxLocals = ls.size) {own : String} {index : Nat} (hown : s.vm.findClass own = some m.cls) (hlink : (Cond.methodLink own index arraycopyName).before args s = true) (hnat : (Cond.native arraycopyName).before args s = true) (hstat : (Cond.static arraycopyName).before args s = true) (hini : (Cond.initialized "java/lang/System").before args s = true)
    (hI : Iv G z ad M s H locs) {k0 k1 n0 n1 : Nat} {f g : Nat → Int32} (h0 : M k0 = some (aI G n0 f)) (h1 : M k1 = some (aI G n1 g)) {n : Nat} (hn0 : n ≤ n0) (hn1 : n ≤ n1) (hn : n < 2 ^ 31)
    (hframes : 1 ≤ R.frames) (hlocals : (rest.map fun v => v.category).sum + (nativeFrameWords "java/lang/System" "arraycopy" 5 + 11) ≤ R.locals) (hdg : decode cc pc = .ok (.invokestatic index, 3))
    (kk : ∀ (M1 : Mem) (H1 : Heap) (locs1 : List Loc), M1 = va_up M k1 (some (aI G n1 (va_cpy f g 0 0 n))) → Iv G z ad M1 s H1 locs1 → W p l e R s m args below meth c H1 locs1 cells slots Q (F0 m (pc + 3) ls rest)) : W p l e R s m args below meth c H locs cells slots Q (F0 m pc ls (.int (nI n) :: .int (nI 0) :: .ref (ad k1) :: .int (nI 0) :: .ref (ad k0) :: rest)) := by
  obtain ⟨hK, ⟨dom, hnd, hd, hP, hD⟩, hS, hz⟩ := hI
  obtain ⟨q0, hq0, hw0⟩ := vwl_at (ad := ad) hd h0
  obtain ⟨q1, hq1, hw1⟩ := vwl_at (ad := ad) hd h1
  have c0 : (nI 0).toNatClampNeg = 0 := nI_clamp (by decide)
  have cn : (nI n).toNatClampNeg = n := nI_clamp hn
  refine va_copyi (D := G.1) (cl := vwCl) (tys := cty G) (ty := .int) hx hb hml hown hlink hnat hstat hini hK.1 hP hD hS q0 q1 0 0 hw0 hw1 rfl rfl rfl (by decide) (by decide) (nI_pos hn) (by rw [c0, cn]; omega) (by rw [c0, cn]; omega) (fun i _ => rfl) hframes hlocals hdg (fun H1 locs1 hP1 hD1 hS1 => ?_)
  rw [c0, cn] at hP1 hD1
  exact kk _ H1 locs1 rfl ⟨hK, Hd.up (e := aI G n1 g) hnd hd hq1 hP1 hD1, hS1, hz⟩
end CP

/-- X2_init -/
abbrev rm_c_X2_init : Room := { frames := 1, cells := 0, slots := 0, locals := 20 }
set_option maxHeartbeats 4000000 in
set_option maxRecDepth 100000 in
theorem c_X2_init (l : Launch) (G : GG) (z : Nat) (ad : Nat → Nat) (M : Mem) {k : Nat} {kd : Nat} {fm : Int32} {to : Int32} (hk : M k = some (.inr (3, [.int (nI 0), .int (nI 0), .int (nI 0), .null])))  : Met l yX2_init wsX2_init rm_c_X2_init (Pr G z ad M [.ref (ad k), .int (nI kd), .int fm, .int to, .ref (ad (k + 1))]) (Nv G z ad (fun (M' : Mem) => M' k = some (cLine ad k kd fm to) ∧ (∀ j : Nat, j ≠ k → M' j = M j))) 0 0 (fr z) := by
  refine Met.ofW (cc := cX2_init) (maxL := 5) (ret := none) (by decide) rfl ?_
  intro p e s m args below meth c s₁ B hml hv
  obtain ⟨rfl, hv⟩ := hv
  have hI := Iv.entry hv
  have hx := B.exec
  have hb := B.bytes
  have hr := B.returns
  have hts := atoms_spec (ws := wsX2_init) B.pre
  have hown : s.vm.findClass RX2 = some m.cls := findClass_of_methodNamed B.named
  have hlocks := B.notSynchronized
  have hini : meth.name = "<init>" := (name_of_methodNamed B.named B.method).1
  have m_1 := hts _ (List.mem_cons_of_mem _ (lwg_of t_656 rfl))
  have n_oi := hts _ (List.mem_cons_of_mem _ (lwg_of t_39 rfl))
  have n_oc := hts _ (List.mem_cons_of_mem _ (lwg_of t_40 rfl))
  have f_7 := hts _ (List.mem_cons_of_mem _ (lwg_of t_657 rfl))
  have i_RX2 : ∀ w ∈ u_ws RX2 TX2 4, w ∈ wsX2_init := fun w h => List.mem_cons_of_mem _ (iu_X2 w h)
  have f_13 := hts _ (List.mem_cons_of_mem _ (lwg_of t_662 rfl))
  have f_16 := hts _ (List.mem_cons_of_mem _ (lwg_of t_665 rfl))
  have f_19 := hts _ (List.mem_cons_of_mem _ (lwg_of t_668 rfl))
  have hl := lv_entry ([.ref (ad k), .int (nI kd), .int fm, .int to, .ref (ad (k + 1))]) (n := 5) (Nat.le_of_ble_eq_true rfl)
  rw [lg_entry_eq]
  generalize (lg_sl ([.ref (ad k), .int (nI kd), .int fm, .int to, .ref (ad (k + 1))]) ++ List.replicate (5 - (lg_sl ([.ref (ad k), .int (nI kd), .int fm, .int to, .ref (ad (k + 1))])).length) Slot.unset).toArray = ls at hl ⊢
  have hl : lv_has ls 5 [(0, .ref (ad k)), (1, .int (nI kd)), (2, .int fm), (3, .int to), (4, .ref (ad (k + 1)))] := hl
  refine lv_aload_n hx hb dX2_init_0 rfl (lv_at hl 0 rfl) ?_
  refine W.objInit hx hb hown m_1 n_oi n_oc rfl (by rw [hml]; exact hl.1) rfl dX2_init_1 (Nat.le_of_ble_eq_true rfl) (Nat.le_of_ble_eq_true rfl) ?_
  refine W.eq (g2 := F0 m 4 ls []) rfl ?_
  refine lv_aload_n hx hb dX2_init_4 rfl (lv_at hl 0 rfl) ?_
  refine lv_iload_n hx hb dX2_init_5 rfl (lv_at hl 1 rfl) ?_
  refine h_putF (C := RX2) (T := TX2) (N := 4) hx hb hts i_RX2 tyX2 tyX2_ok nmX2 hown hI hk rfl 0 (by decide) f_7 rfl rfl hini rfl rfl rfl (Nat.le_of_ble_eq_true rfl) dX2_init_6 (fun M_1 H_2 locs_3 eM_4 hI => ?_)
  have hm_5 : M_1 k = some (.inr (3, [.int (nI kd), .int (nI 0), .int (nI 0), .null])) := by rw [eM_4]; exact va_up_self _ _ _
  have hF_6 : ∀ j : Nat, j ≠ k → M_1 j = M j := fun j q0 => by rw [eM_4, va_up_ne _ _ q0]
  refine lv_aload_n hx hb dX2_init_9 rfl (lv_at hl 0 rfl) ?_
  refine lv_iload_n hx hb dX2_init_10 rfl (lv_at hl 2 rfl) ?_
  refine h_putF (C := RX2) (T := TX2) (N := 4) hx hb hts i_RX2 tyX2 tyX2_ok nmX2 hown hI hm_5 rfl 1 (by decide) f_13 rfl rfl hini rfl rfl rfl (Nat.le_of_ble_eq_true rfl) dX2_init_11 (fun M_7 H_8 locs_9 eM_10 hI => ?_)
  have hm_11 : M_7 k = some (.inr (3, [.int (nI kd), .int fm, .int (nI 0), .null])) := by rw [eM_10]; exact va_up_self _ _ _
  have hF_12 : ∀ j : Nat, j ≠ k → M_7 j = M j := fun j q0 => by rw [eM_10, va_up_ne _ _ q0]; exact hF_6 j q0
  refine lv_aload_n hx hb dX2_init_14 rfl (lv_at hl 0 rfl) ?_
  refine lv_iload_n hx hb dX2_init_15 rfl (lv_at hl 3 rfl) ?_
  refine h_put (C := RX2) (T := TX2) (N := 4) hx hb hts i_RX2 tyX2 tyX2_ok nmX2 hown hI hm_11 rfl 2 (by decide) f_16 rfl rfl rfl rfl (Nat.le_of_ble_eq_true rfl) dX2_init_16 (fun M_13 H_14 locs_15 eM_16 hI => ?_)
  have hm_17 : M_13 k = some (.inr (3, [.int (nI kd), .int fm, .int to, .null])) := by rw [eM_16]; exact va_up_self _ _ _
  have hF_18 : ∀ j : Nat, j ≠ k → M_13 j = M j := fun j q0 => by rw [eM_16, va_up_ne _ _ q0]; exact hF_12 j q0
  refine lv_aload_n hx hb dX2_init_19 rfl (lv_at hl 0 rfl) ?_
  refine lv_aload hx hb dX2_init_20 (lv_at hl 4 rfl) ?_
  refine h_putF (C := RX2) (T := TX2) (N := 4) hx hb hts i_RX2 tyX2 tyX2_ok nmX2 hown hI hm_17 rfl 3 (by decide) f_19 rfl rfl hini rfl rfl rfl (Nat.le_of_ble_eq_true rfl) dX2_init_22 (fun M_19 H_20 locs_21 eM_22 hI => ?_)
  have hm_23 : M_19 k = some (.inr (3, [.int (nI kd), .int fm, .int to, .ref (ad (k + 1))])) := by rw [eM_22]; exact va_up_self _ _ _
  have hF_24 : ∀ j : Nat, j ≠ k → M_19 j = M j := fun j q0 => by rw [eM_22, va_up_ne _ _ q0]; exact hF_18 j q0
  exact e_Nv hx hb hr hlocks hI ⟨hm_23, (fun j q0 => hF_24 j q0)⟩ dX2_init_25

/-- of e the first s as they are, the others as a new array has them -/
def frs (s : Nat) (f : Nat → Nat) (j : Nat) : Nat := if j < s then f j else 0
def frsE (s : Nat) (f : Nat → Nat) (j : Nat) : Nat := if j < s then f j else 1000
theorem cpy_n (f : Nat → Nat) (s : Nat) : va_cpy (nF f) (nF (fun _ => 0)) 0 0 s = nF (frs s f) := by
  funext j
  simp only [va_cpy, nF, frs, Nat.zero_le, true_and, Nat.zero_add, Nat.sub_zero]
  split <;> rfl
theorem cpy_th {th : Nat → Option Nat} {e0 : Nat → Nat} {s : Nat} (h : ∀ j, j < s → th j = thE e0 j) : va_cpy (oF th) (nF (fun _ => 0)) 0 0 s = oF (thE (frsE s e0)) := by
  funext j
  simp only [va_cpy, nF, oF, Nat.zero_le, true_and, Nat.zero_add, Nat.sub_zero]
  by_cases hj : j < s
  · rw [if_pos hj, h j hj]; simp only [thE, frsE, if_pos hj]
  · rw [if_neg hj]; simp only [thE, frsE, if_neg hj]; rfl
theorem cpy_ol {ol : Nat → Option Nat} {e0 : Nat → Nat} {s : Nat} (h : ∀ j, j < s → ol j = olE e0 j) : va_cpy (oF ol) (nF (fun _ => 0)) 0 0 s = oF (olE (frsE s e0)) := by
  funext j
  simp only [va_cpy, nF, oF, Nat.zero_le, true_and, Nat.zero_add, Nat.sub_zero]
  by_cases hj : j < s
  · rw [if_pos hj, h j hj]; simp only [olE, frsE, if_pos hj]
  · rw [if_neg hj]; simp only [olE, frsE, if_neg hj]; rfl

/-- X0_copy -/
abbrev rm_c_X0_copy : Room := { frames := 2, cells := 4, slots := 22, locals := 60 }
set_option maxHeartbeats 4000000 in
set_option maxRecDepth 100000 in
theorem c_X0_copy (l : Launch) (G : GG) (z : Nat) (ad : Nat → Nat) (M : Mem) {k : Nat} {sz : Nat} {rl : Nat → Nat} {th : Nat → Option Nat} {ol : Nat → Option Nat} {e0 : Nat → Nat} (h12 : M 12 = some (cEnds ad 12 sz)) (h13 : M 13 = some (aI G 6 (nF rl))) (h14 : M 14 = some (aI G 6 (oF th))) (h15 : M 15 = some (aI G 6 (oF ol))) (hsz : sz ≤ 6) (hk : 99 < k) (hth : ∀ j, j < sz → th j = thE e0 j) (hol : ∀ j, j < sz → ol j = olE e0 j) (fre0 : M k = none) (fre1 : M (k + 1) = none) (fre2 : M (k + 2) = none) (fre3 : M (k + 3) = none) : Met l yX0_copy wsX0_copy rm_c_X0_copy (Pr G z ad M [.ref (ad 12)]) (Aq G z (fun (r : Option Nat) (u : (Nat → Nat) × Mem) => r = some (u.1 k) ∧ u.2 k = some (cEnds u.1 k sz) ∧ u.2 (k + 1) = some (aI G 6 (nF (frs sz rl))) ∧ u.2 (k + 2) = some (aI G 6 (oF (thE (frsE sz e0)))) ∧ u.2 (k + 3) = some (aI G 6 (oF (olE (frsE sz e0)))) ∧ (∀ j : Nat, j ≠ k → j ≠ (k + 1) → j ≠ (k + 2) → j ≠ (k + 3) → u.2 j = M j) ∧ (∀ j : Nat, j ≠ k → j ≠ (k + 1) → j ≠ (k + 2) → j ≠ (k + 3) → u.1 j = ad j))) 4 22 (fr z) := by
  refine Met.ofW (cc := cX0_copy) (maxL := 2) (ret := (some (.object "LineStore$Ends"))) (by decide) rfl ?_
  intro p e s m args below meth c s₁ B hml hv
  obtain ⟨rfl, hv⟩ := hv
  have hI := Iv.entry hv
  have hx := B.exec
  have hb := B.bytes
  have hr := B.returns
  have hts := atoms_spec (ws := wsX0_copy) B.pre
  have hown : s.vm.findClass RX0 = some m.cls := findClass_of_methodNamed B.named
  have hlocks := B.notSynchronized
  have nw_i10 := hts _ (List.mem_cons_of_mem _ (lwg_of t_95 rfl))
  have nw_n10 := hts _ (List.mem_cons_of_mem _ (lwg_of t_5 rfl))
  have i_RX0 : ∀ w ∈ u_ws RX0 TX0 4, w ∈ wsX0_copy := fun w h => List.mem_cons_of_mem _ (iu_X0 w h)
  have nw_c10 := hts _ (List.mem_cons_of_mem _ (lwg_of t_648 rfl))
  have sp_25 := hts _ (List.mem_cons_of_mem _ (lwg_of t_5 rfl))
  have in_25 := hts _ (List.mem_cons_of_mem _ (lwg_of t_97 rfl))
  have ml_25 := hts _ (List.mem_cons_of_mem _ (lwg_of t_649 rfl))
  have f_9 := hts _ (List.mem_cons_of_mem _ (lwg_of t_100 rfl))
  have f_21 := hts _ (List.mem_cons_of_mem _ (lwg_of t_103 rfl))
  have m_26 := hts _ (List.mem_cons_of_mem _ (lwg_of t_650 rfl))
  have n_ac := hts _ (List.mem_cons_of_mem _ (lwg_of t_652 rfl))
  have s_ac := hts _ (List.mem_cons_of_mem _ (lwg_of t_651 rfl))
  have i_sy := hts _ (List.mem_cons_of_mem _ (lwg_of t_22 rfl))
  have f_15 := hts _ (List.mem_cons_of_mem _ (lwg_of t_101 rfl))
  have f_18 := hts _ (List.mem_cons_of_mem _ (lwg_of t_102 rfl))
  have hl := lv_entry ([.ref (ad 12)]) (n := 2) (Nat.le_of_ble_eq_true rfl)
  rw [lg_entry_eq]
  generalize (lg_sl ([.ref (ad 12)]) ++ List.replicate (2 - (lg_sl ([.ref (ad 12)])).length) Slot.unset).toArray = ls at hl ⊢
  have hl : lv_has ls 2 [(0, .ref (ad 12))] := hl
  refine h_new (C := RX0) (T := TX0) (N := 4) (ci := 1) (fs := [.null, .null, .null, .int (nI 0)]) hx hb hts i_RX0 tyX0 tyX0_ok hown nw_c10 nw_i10 nw_n10 hI rfl (fun j hj => match j, hj with | 0, _ => rfl | 1, _ => rfl | 2, _ => rfl | 3, _ => rfl | n + 4, h => absurd h (by omega)) (Nat.le_of_ble_eq_true rfl) (Nat.le_of_ble_eq_true rfl) dX0_copy_0 k fre0 (fun ad_1 M_2 H_3 hA_4 eM_5 hI => ?_)
  have hAd_7 : ∀ j : Nat, j ≠ k → ad_1 j = ad j := fun j hj => by obtain ⟨q, e⟩ := hA_4; rw [e]; exact va_up_ne _ _ hj
  have hm_8 : M_2 k = some (.inr (1, [.null, .null, .null, .int (nI 0)])) := by rw [eM_5]; exact va_up_self _ _ _
  have hm_9 : M_2 12 = some (cEnds ad_1 12 sz) := by rw [eM_5, va_up_ne _ _ (by omega), h12]; simp only [cEnds, hAd_7 13 (by omega), hAd_7 14 (by omega), hAd_7 15 (by omega)]
  have hm_10 : M_2 13 = some (aI G 6 (nF rl)) := by rw [eM_5, va_up_ne _ _ (by omega), h13]
  have hm_11 : M_2 14 = some (aI G 6 (oF th)) := by rw [eM_5, va_up_ne _ _ (by omega), h14]
  have hm_12 : M_2 15 = some (aI G 6 (oF ol)) := by rw [eM_5, va_up_ne _ _ (by omega), h15]
  have fr_13 : M_2 (k + 1) = none := by rw [eM_5, va_up_ne _ _ (by omega)]; exact fre1
  have fr_14 : M_2 (k + 2) = none := by rw [eM_5, va_up_ne _ _ (by omega)]; exact fre2
  have fr_15 : M_2 (k + 3) = none := by rw [eM_5, va_up_ne _ _ (by omega)]; exact fre3
  have hF_16 : ∀ j : Nat, j ≠ k → M_2 j = M j := fun j q0 => by rw [eM_5, va_up_ne _ _ q0]
  refine lv_dup hx hb dX0_copy_3 rfl ?_
  refine k_Av (va_runI (As := []) (rest := [.ref (ad_1 k)]) ⟨hx, hb, hml, hown, hts⟩ (c_X0_init l G z ad_1 M_2 (k := k) hm_8 fr_13 fr_14 fr_15) (cwI 0 hts (gU (lwg_of t_98 rfl)) rfl rfl rfl sp_25 ml_25 in_25 rfl (by decide +kernel) ⟨Nat.le_of_ble_eq_true rfl, Nat.le_of_ble_eq_true rfl⟩) hI.preS rfl rfl hl.1 rfl (lv_room (Nat.le_of_ble_eq_true rfl)) dX0_copy_4 ⟨Nat.le_of_ble_eq_true rfl, Nat.le_of_ble_eq_true rfl⟩) hI (fun ad_22 M_19 H_20 locs_21 hp_18 hI => ?_)
  obtain ⟨hm_23, hm_24, hm_25, hm_26, hF_27, hAd_28⟩ := hp_18
  have hm_29 : M_19 k = some (cEnds ad_22 k 0) := hm_23
  have hm_30 : M_19 (k + 1) = some (aI G 6 (nF (fun _ => 0))) := hm_24
  have hm_31 : M_19 (k + 2) = some (aI G 6 (nF (fun _ => 0))) := hm_25
  have hm_32 : M_19 (k + 3) = some (aI G 6 (nF (fun _ => 0))) := hm_26
  have hAd_33 : ∀ j : Nat, j ≠ (k + 1) → j ≠ (k + 2) → j ≠ (k + 3) → ad_22 j = ad_1 j := hAd_28
  have hF_34 : ∀ j : Nat, j ≠ k → j ≠ (k + 1) → j ≠ (k + 2) → j ≠ (k + 3) → M_19 j = M_2 j := hF_27
  have hm_35 : M_19 12 = some (cEnds ad_22 12 sz) := by rw [hF_34 12 (by omega) (by omega) (by omega) (by omega), hm_9]; simp only [cEnds, hAd_33 13 (by omega) (by omega) (by omega), hAd_33 14 (by omega) (by omega) (by omega), hAd_33 15 (by omega) (by omega) (by omega)]
  have hm_36 : M_19 13 = some (aI G 6 (nF rl)) := by rw [hF_34 13 (by omega) (by omega) (by omega) (by omega), hm_10]
  have hm_37 : M_19 14 = some (aI G 6 (oF th)) := by rw [hF_34 14 (by omega) (by omega) (by omega) (by omega), hm_11]
  have hm_38 : M_19 15 = some (aI G 6 (oF ol)) := by rw [hF_34 15 (by omega) (by omega) (by omega) (by omega), hm_12]
  clear hm_9 hm_10 hm_11 hm_12
  have hF_39 : ∀ j : Nat, j ≠ k → j ≠ (k + 1) → j ≠ (k + 2) → j ≠ (k + 3) → M_19 j = M j := fun j q0 q1 q2 q3 => (hF_34 j q0 q1 q2 q3).trans (hF_16 j q0)
  clear hF_16 hF_27
  refine n_eqs (show ([.ref (ad_1 k)] : List Value) = [.ref (ad_22 k)] from by rw [hAd_33 k (by omega) (by omega) (by omega)]) ?_
  refine lv_astore_n (lv' := [(1, .ref (ad_22 k)), (0, .ref (ad 12))]) hx hb dX0_copy_7 rfl hl (by decide) rfl (fun ls hl => ?_)
  refine lv_aload_n hx hb dX0_copy_8 rfl (lv_at hl 1 rfl) ?_
  refine n_eqv (show Value.ref (ad 12) = .ref (ad_22 12) from by rw [hAd_33 12 (by omega) (by omega) (by omega), hAd_7 12 (by omega)]) ?_
  refine h_get (C := RX0) (T := TX0) (N := 4) hx hb hts i_RX0 hown hI hm_35 rfl 0 (by decide) f_9 rfl rfl dX0_copy_9 ?_
  refine lv_iconst (v := nI 0) hx hb dX0_copy_12 (by decide) ?_
  refine lv_aload_n hx hb dX0_copy_13 rfl (lv_at hl 0 rfl) ?_
  refine h_get (C := RX0) (T := TX0) (N := 4) hx hb hts i_RX0 hown hI hm_29 rfl 0 (by decide) f_9 rfl rfl dX0_copy_14 ?_
  refine lv_iconst (v := nI 0) hx hb dX0_copy_17 (by decide) ?_
  refine lv_aload_n hx hb dX0_copy_18 rfl (lv_at hl 1 rfl) ?_
  refine n_eqv (show Value.ref (ad 12) = .ref (ad_22 12) from by rw [hAd_33 12 (by omega) (by omega) (by omega), hAd_7 12 (by omega)]) ?_
  refine h_get (C := RX0) (T := TX0) (N := 4) hx hb hts i_RX0 hown hI hm_35 rfl 3 (by decide) f_21 rfl rfl dX0_copy_19 ?_
  refine h_copyi (n := sz) hx hb (by rw [hml]; exact hl.1.symm) hown m_26 n_ac s_ac i_sy hI hm_36 hm_30 (by omega) (by omega) (by omega) (Nat.le_of_ble_eq_true rfl) (Nat.le_of_ble_eq_true rfl) dX0_copy_22 (fun M_40 H_41 locs_42 eM_43 hI => ?_)
  have hm_44 : M_40 12 = some (cEnds ad_22 12 sz) := by rw [eM_43, va_up_ne _ _ (by omega)]; exact hm_35
  have hm_45 : M_40 13 = some (aI G 6 (nF rl)) := by rw [eM_43, va_up_ne _ _ (by omega)]; exact hm_36
  have hm_46 : M_40 14 = some (aI G 6 (oF th)) := by rw [eM_43, va_up_ne _ _ (by omega)]; exact hm_37
  have hm_47 : M_40 15 = some (aI G 6 (oF ol)) := by rw [eM_43, va_up_ne _ _ (by omega)]; exact hm_38
  have hm_48 : M_40 k = some (cEnds ad_22 k 0) := by rw [eM_43, va_up_ne _ _ (by omega)]; exact hm_29
  have hm_49 : M_40 (k + 1) = some (aI G 6 (va_cpy (nF rl) (nF (fun _ => 0)) 0 0 sz)) := by rw [eM_43]; exact va_up_self _ _ _
  have hm_50 : M_40 (k + 2) = some (aI G 6 (nF (fun _ => 0))) := by rw [eM_43, va_up_ne _ _ (by omega)]; exact hm_31
  have hm_51 : M_40 (k + 3) = some (aI G 6 (nF (fun _ => 0))) := by rw [eM_43, va_up_ne _ _ (by omega)]; exact hm_32
  have hF_52 : ∀ j : Nat, j ≠ k → j ≠ (k + 1) → j ≠ (k + 2) → j ≠ (k + 3) → M_40 j = M j := fun j q0 q1 q2 q3 => by rw [eM_43, va_up_ne _ _ q1]; exact hF_39 j q0 q1 q2 q3
  clear hm_35 hm_36 hm_37 hm_38 hm_29 hm_30 hm_31 hm_32 hF_39
  refine lv_aload_n hx hb dX0_copy_25 rfl (lv_at hl 1 rfl) ?_
  refine n_eqv (show Value.ref (ad 12) = .ref (ad_22 12) from by rw [hAd_33 12 (by omega) (by omega) (by omega), hAd_7 12 (by omega)]) ?_
  refine h_get (C := RX0) (T := TX0) (N := 4) hx hb hts i_RX0 hown hI hm_44 rfl 1 (by decide) f_15 rfl rfl dX0_copy_26 ?_
  refine lv_iconst (v := nI 0) hx hb dX0_copy_29 (by decide) ?_
  refine lv_aload_n hx hb dX0_copy_30 rfl (lv_at hl 0 rfl) ?_
  refine h_get (C := RX0) (T := TX0) (N := 4) hx hb hts i_RX0 hown hI hm_48 rfl 1 (by decide) f_15 rfl rfl dX0_copy_31 ?_
  refine lv_iconst (v := nI 0) hx hb dX0_copy_34 (by decide) ?_
  refine lv_aload_n hx hb dX0_copy_35 rfl (lv_at hl 1 rfl) ?_
  refine n_eqv (show Value.ref (ad 12) = .ref (ad_22 12) from by rw [hAd_33 12 (by omega) (by omega) (by omega), hAd_7 12 (by omega)]) ?_
  refine h_get (C := RX0) (T := TX0) (N := 4) hx hb hts i_RX0 hown hI hm_44 rfl 3 (by decide) f_21 rfl rfl dX0_copy_36 ?_
  refine h_copyi (n := sz) hx hb (by rw [hml]; exact hl.1.symm) hown m_26 n_ac s_ac i_sy hI hm_46 hm_50 (by omega) (by omega) (by omega) (Nat.le_of_ble_eq_true rfl) (Nat.le_of_ble_eq_true rfl) dX0_copy_39 (fun M_53 H_54 locs_55 eM_56 hI => ?_)
  have hm_57 : M_53 12 = some (cEnds ad_22 12 sz) := by rw [eM_56, va_up_ne _ _ (by omega)]; exact hm_44
  have hm_58 : M_53 13 = some (aI G 6 (nF rl)) := by rw [eM_56, va_up_ne _ _ (by omega)]; exact hm_45
  have hm_59 : M_53 14 = some (aI G 6 (oF th)) := by rw [eM_56, va_up_ne _ _ (by omega)]; exact hm_46
  have hm_60 : M_53 15 = some (aI G 6 (oF ol)) := by rw [eM_56, va_up_ne _ _ (by omega)]; exact hm_47
  have hm_61 : M_53 k = some (cEnds ad_22 k 0) := by rw [eM_56, va_up_ne _ _ (by omega)]; exact hm_48
  have hm_62 : M_53 (k + 1) = some (aI G 6 (va_cpy (nF rl) (nF (fun _ => 0)) 0 0 sz)) := by rw [eM_56, va_up_ne _ _ (by omega)]; exact hm_49
  have hm_63 : M_53 (k + 2) = some (aI G 6 (va_cpy (oF th) (nF (fun _ => 0)) 0 0 sz)) := by rw [eM_56]; exact va_up_self _ _ _
  have hm_64 : M_53 (k + 3) = some (aI G 6 (nF (fun _ => 0))) := by rw [eM_56, va_up_ne _ _ (by omega)]; exact hm_51
  have hF_65 : ∀ j : Nat, j ≠ k → j ≠ (k + 1) → j ≠ (k + 2) → j ≠ (k + 3) → M_53 j = M j := fun j q0 q1 q2 q3 => by rw [eM_56, va_up_ne _ _ q2]; exact hF_52 j q0 q1 q2 q3
  clear hm_44 hm_45 hm_46 hm_47 hm_48 hm_49 hm_50 hm_51 hF_52
  refine lv_aload_n hx hb dX0_copy_42 rfl (lv_at hl 1 rfl) ?_
  refine n_eqv (show Value.ref (ad 12) = .ref (ad_22 12) from by rw [hAd_33 12 (by omega) (by omega) (by omega), hAd_7 12 (by omega)]) ?_
  refine h_get (C := RX0) (T := TX0) (N := 4) hx hb hts i_RX0 hown hI hm_57 rfl 2 (by decide) f_18 rfl rfl dX0_copy_43 ?_
  refine lv_iconst (v := nI 0) hx hb dX0_copy_46 (by decide) ?_
  refine lv_aload_n hx hb dX0_copy_47 rfl (lv_at hl 0 rfl) ?_
  refine h_get (C := RX0) (T := TX0) (N := 4) hx hb hts i_RX0 hown hI hm_61 rfl 2 (by decide) f_18 rfl rfl dX0_copy_48 ?_
  refine lv_iconst (v := nI 0) hx hb dX0_copy_51 (by decide) ?_
  refine lv_aload_n hx hb dX0_copy_52 rfl (lv_at hl 1 rfl) ?_
  refine n_eqv (show Value.ref (ad 12) = .ref (ad_22 12) from by rw [hAd_33 12 (by omega) (by omega) (by omega), hAd_7 12 (by omega)]) ?_
  refine h_get (C := RX0) (T := TX0) (N := 4) hx hb hts i_RX0 hown hI hm_57 rfl 3 (by decide) f_21 rfl rfl dX0_copy_53 ?_
  refine h_copyi (n := sz) hx hb (by rw [hml]; exact hl.1.symm) hown m_26 n_ac s_ac i_sy hI hm_60 hm_64 (by omega) (by omega) (by omega) (Nat.le_of_ble_eq_true rfl) (Nat.le_of_ble_eq_true rfl) dX0_copy_56 (fun M_66 H_67 locs_68 eM_69 hI => ?_)
  have hm_70 : M_66 12 = some (cEnds ad_22 12 sz) := by rw [eM_69, va_up_ne _ _ (by omega)]; exact hm_57
  have hm_71 : M_66 13 = some (aI G 6 (nF rl)) := by rw [eM_69, va_up_ne _ _ (by omega)]; exact hm_58
  have hm_72 : M_66 14 = some (aI G 6 (oF th)) := by rw [eM_69, va_up_ne _ _ (by omega)]; exact hm_59
  have hm_73 : M_66 15 = some (aI G 6 (oF ol)) := by rw [eM_69, va_up_ne _ _ (by omega)]; exact hm_60
  have hm_74 : M_66 k = some (cEnds ad_22 k 0) := by rw [eM_69, va_up_ne _ _ (by omega)]; exact hm_61
  have hm_75 : M_66 (k + 1) = some (aI G 6 (va_cpy (nF rl) (nF (fun _ => 0)) 0 0 sz)) := by rw [eM_69, va_up_ne _ _ (by omega)]; exact hm_62
  have hm_76 : M_66 (k + 2) = some (aI G 6 (va_cpy (oF th) (nF (fun _ => 0)) 0 0 sz)) := by rw [eM_69, va_up_ne _ _ (by omega)]; exact hm_63
  have hm_77 : M_66 (k + 3) = some (aI G 6 (va_cpy (oF ol) (nF (fun _ => 0)) 0 0 sz)) := by rw [eM_69]; exact va_up_self _ _ _
  have hF_78 : ∀ j : Nat, j ≠ k → j ≠ (k + 1) → j ≠ (k + 2) → j ≠ (k + 3) → M_66 j = M j := fun j q0 q1 q2 q3 => by rw [eM_69, va_up_ne _ _ q3]; exact hF_65 j q0 q1 q2 q3
  clear hm_57 hm_58 hm_59 hm_60 hm_61 hm_62 hm_63 hm_64 hF_65
  refine lv_aload_n hx hb dX0_copy_59 rfl (lv_at hl 0 rfl) ?_
  refine lv_aload_n hx hb dX0_copy_60 rfl (lv_at hl 1 rfl) ?_
  refine n_eqv (show Value.ref (ad 12) = .ref (ad_22 12) from by rw [hAd_33 12 (by omega) (by omega) (by omega), hAd_7 12 (by omega)]) ?_
  refine h_get (C := RX0) (T := TX0) (N := 4) hx hb hts i_RX0 hown hI hm_70 rfl 3 (by decide) f_21 rfl rfl dX0_copy_61 ?_
  refine h_put (C := RX0) (T := TX0) (N := 4) hx hb hts i_RX0 tyX0 tyX0_ok nmX0 hown hI hm_74 rfl 3 (by decide) f_21 rfl rfl rfl rfl (Nat.le_of_ble_eq_true rfl) dX0_copy_64 (fun M_79 H_80 locs_81 eM_82 hI => ?_)
  have hm_83 : M_79 12 = some (cEnds ad_22 12 sz) := by rw [eM_82, va_up_ne _ _ (by omega)]; exact hm_70
  have hm_84 : M_79 13 = some (aI G 6 (nF rl)) := by rw [eM_82, va_up_ne _ _ (by omega)]; exact hm_71
  have hm_85 : M_79 14 = some (aI G 6 (oF th)) := by rw [eM_82, va_up_ne _ _ (by omega)]; exact hm_72
  have hm_86 : M_79 15 = some (aI G 6 (oF ol)) := by rw [eM_82, va_up_ne _ _ (by omega)]; exact hm_73
  have hm_87 : M_79 k = some (cEnds ad_22 k sz) := by rw [eM_82]; exact va_up_self _ _ _
  have hm_88 : M_79 (k + 1) = some (aI G 6 (va_cpy (nF rl) (nF (fun _ => 0)) 0 0 sz)) := by rw [eM_82, va_up_ne _ _ (by omega)]; exact hm_75
  have hm_89 : M_79 (k + 2) = some (aI G 6 (va_cpy (oF th) (nF (fun _ => 0)) 0 0 sz)) := by rw [eM_82, va_up_ne _ _ (by omega)]; exact hm_76
  have hm_90 : M_79 (k + 3) = some (aI G 6 (va_cpy (oF ol) (nF (fun _ => 0)) 0 0 sz)) := by rw [eM_82, va_up_ne _ _ (by omega)]; exact hm_77
  have hF_91 : ∀ j : Nat, j ≠ k → j ≠ (k + 1) → j ≠ (k + 2) → j ≠ (k + 3) → M_79 j = M j := fun j q0 q1 q2 q3 => by rw [eM_82, va_up_ne _ _ q0]; exact hF_78 j q0 q1 q2 q3
  clear hm_70 hm_71 hm_72 hm_73 hm_74 hm_75 hm_76 hm_77 hF_78
  refine lv_aload_n hx hb dX0_copy_67 rfl (lv_at hl 0 rfl) ?_
  exact e_Aq hx hb hr (Or.inl ⟨_, rfl⟩) hlocks hI ⟨rfl, hm_87, (by rw [← cpy_n rl sz]; exact hm_88), (by rw [← cpy_th hth]; exact hm_89), (by rw [← cpy_ol hol]; exact hm_90), (fun j q0 q1 q2 q3 => hF_91 j q0 q1 q2 q3), (fun j q0 q1 q2 q3 => (by show ad_22 j = ad j; rw [hAd_33 j q1 q2 q3, hAd_7 j q0]))⟩ dX0_copy_68

/-- X9_init -/
abbrev rm_c_X9_init : Room := { frames := 5, cells := 48, slots := 3696, locals := 100 }
set_option maxHeartbeats 4000000 in
set_option maxRecDepth 100000 in
theorem c_X9_init (l : Launch) (G : GG) (z : Nat) (ad : Nat → Nat) (M : Mem)  (h0 : M 0 = some (.inr (10, [.null, .null, .null, .null, .null, .null, .null, .null, .null, .int (nI 0)]))) (fre0 : M 1 = none) (fre1 : M 2 = none) (fre2 : M 3 = none) (fre3 : M 4 = none) (fre4 : M 5 = none) (fre5 : M 6 = none) (fre6 : M 7 = none) (fre7 : M 8 = none) (fre8 : M 9 = none) (fre9 : M 10 = none) (fre10 : M 11 = none) (fre11 : M 12 = none) (fre12 : M 13 = none) (fre13 : M 14 = none) (fre14 : M 15 = none) (fre15 : M 16 = none) (fre16 : M 17 = none) (fre17 : M 19 = none) (fre18 : M 20 = none) (fre19 : M 21 = none) (fre20 : M 22 = none) (fre21 : M 23 = none) (fre22 : M 24 = none) (fre23 : M 25 = none) (fre24 : M 26 = none) (fre25 : M 27 = none) (fre26 : M 28 = none) (fre27 : M 44 = none) (fre28 : M 45 = none) (fre29 : M 46 = none) (fre30 : M 47 = none) (fre31 : M 48 = none) (fre32 : M 49 = none) (fre33 : M 50 = none) (fre34 : M 30 = none) (fre35 : M 31 = none) (fre36 : M 32 = none) (fre37 : M 33 = none) (fre38 : M 34 = none) (fre39 : M 35 = none) (fre40 : M 36 = none) (fre41 : M 37 = none) (fre42 : M 38 = none) (fre43 : M 39 = none) (fre44 : M 40 = none) (fre45 : M 41 = none) (fre46 : M 42 = none) (fre47 : M 43 = none) : Met l yX9_init wsX9_init rm_c_X9_init (Pr G z ad M [.ref (ad 0)]) (Av G z (fun (u : (Nat → Nat) × Mem) => ∃ mo : Nat → Nat, ∃ ho : Nat → Bool, ∃ hg : Nat → Nat, ∃ lst : Nat → Nat, u.2 0 = some (cStore u.1 30 37 (-1)) ∧ u.2 1 = some (cTape u.1 0) ∧ u.2 2 = some (aI G 400 (nF (fun _ => 0))) ∧ u.2 3 = some (cLaws u.1 ) ∧ u.2 4 = some (aI G 36 (nF (fun _ => 0))) ∧ u.2 5 = some (aI G 36 (nF mo)) ∧ u.2 6 = some (aI G 36 (nF (fun _ => 0))) ∧ u.2 7 = some (aZ G 6 (bF ho)) ∧ u.2 8 = some (cOnes u.1 0) ∧ u.2 9 = some (aI G 40 (nF hg)) ∧ u.2 10 = some (aI G 40 (nF lst)) ∧ u.2 11 = some (aI G 40 (nF (fun _ => 0))) ∧ u.2 12 = some (cEnds u.1 12 0) ∧ u.2 13 = some (aI G 6 (nF (fun _ => 0))) ∧ u.2 14 = some (aI G 6 (nF (fun _ => 0))) ∧ u.2 15 = some (aI G 6 (nF (fun _ => 0))) ∧ u.2 16 = some (cLines u.1 ) ∧ u.2 17 = some (cList u.1 (nI 0) G.2.2.2.2 0) ∧ u.2 19 = some (aZ G 120 (bF (fun _ => false))) ∧ u.2 20 = some (aI G 120 (nF (fun _ => 0))) ∧ u.2 21 = some (aI G 120 (nF (fun _ => 0))) ∧ u.2 22 = some (cReader u.1 0 0 (nI 0) (nI 0)) ∧ u.2 23 = some (cMatcher u.1 44 0) ∧ u.2 24 = some (aJ G 2160 (fun _ => 0)) ∧ u.2 25 = some (aI G 6 (nF (fun _ => 0))) ∧ u.2 26 = some (aJ G 240 (fun _ => 0)) ∧ u.2 27 = some (aJ G 3 (fun _ => 0)) ∧ u.2 28 = some (aI G 3 (nF (fun _ => 0))) ∧ u.2 44 = some (cQuestion u.1 44 0 0) ∧ u.2 45 = some (aI G 6 (nF (fun _ => 0))) ∧ u.2 46 = some (aZ G 6 (bF (fun _ => false))) ∧ u.2 47 = some (aI G 6 (nF (fun _ => 0))) ∧ u.2 48 = some (aI G 6 (nF (fun _ => 0))) ∧ u.2 49 = some (aI G 24 (nF (fun _ => 0))) ∧ u.2 50 = some (aI G 24 (nF (fun _ => 0))) ∧ u.2 30 = some (cQuestion u.1 30 0 0) ∧ u.2 31 = some (aI G 6 (nF (fun _ => 0))) ∧ u.2 32 = some (aZ G 6 (bF (fun _ => false))) ∧ u.2 33 = some (aI G 6 (nF (fun _ => 0))) ∧ u.2 34 = some (aI G 6 (nF (fun _ => 0))) ∧ u.2 35 = some (aI G 24 (nF (fun _ => 0))) ∧ u.2 36 = some (aI G 24 (nF (fun _ => 0))) ∧ u.2 37 = some (cQuestion u.1 37 0 0) ∧ u.2 38 = some (aI G 6 (nF (fun _ => 0))) ∧ u.2 39 = some (aZ G 6 (bF (fun _ => false))) ∧ u.2 40 = some (aI G 6 (nF (fun _ => 0))) ∧ u.2 41 = some (aI G 6 (nF (fun _ => 0))) ∧ u.2 42 = some (aI G 24 (nF (fun _ => 0))) ∧ u.2 43 = some (aI G 24 (nF (fun _ => 0))) ∧ (∀ j : Nat, j ≠ 0 → j ≠ 1 → j ≠ 2 → j ≠ 3 → j ≠ 4 → j ≠ 5 → j ≠ 6 → j ≠ 7 → j ≠ 8 → j ≠ 9 → j ≠ 10 → j ≠ 11 → j ≠ 12 → j ≠ 13 → j ≠ 14 → j ≠ 15 → j ≠ 16 → j ≠ 17 → j ≠ 19 → j ≠ 20 → j ≠ 21 → j ≠ 22 → j ≠ 23 → j ≠ 24 → j ≠ 25 → j ≠ 26 → j ≠ 27 → j ≠ 28 → j ≠ 44 → j ≠ 45 → j ≠ 46 → j ≠ 47 → j ≠ 48 → j ≠ 49 → j ≠ 50 → j ≠ 30 → j ≠ 31 → j ≠ 32 → j ≠ 33 → j ≠ 34 → j ≠ 35 → j ≠ 36 → j ≠ 37 → j ≠ 38 → j ≠ 39 → j ≠ 40 → j ≠ 41 → j ≠ 42 → j ≠ 43 → u.2 j = M j) ∧ (∀ j : Nat, j ≠ 1 → j ≠ 2 → j ≠ 3 → j ≠ 4 → j ≠ 5 → j ≠ 6 → j ≠ 7 → j ≠ 8 → j ≠ 9 → j ≠ 10 → j ≠ 11 → j ≠ 12 → j ≠ 13 → j ≠ 14 → j ≠ 15 → j ≠ 16 → j ≠ 17 → j ≠ 19 → j ≠ 20 → j ≠ 21 → j ≠ 22 → j ≠ 23 → j ≠ 24 → j ≠ 25 → j ≠ 26 → j ≠ 27 → j ≠ 28 → j ≠ 44 → j ≠ 45 → j ≠ 46 → j ≠ 47 → j ≠ 48 → j ≠ 49 → j ≠ 50 → j ≠ 30 → j ≠ 31 → j ≠ 32 → j ≠ 33 → j ≠ 34 → j ≠ 35 → j ≠ 36 → j ≠ 37 → j ≠ 38 → j ≠ 39 → j ≠ 40 → j ≠ 41 → j ≠ 42 → j ≠ 43 → u.1 j = ad j) ∧ (((∀ i, i < 36 → mo i = 6) ∧ ∀ i, i < 6 → ho i = true) ∧ ∀ t, t < 40 → hg t = t ∧ lst t = t))) 48 3696 (fr z) := by
  refine Met.ofW (cc := cX9_init) (maxL := 1) (ret := none) (by decide) rfl ?_
  intro p e s m args below meth c s₁ B hml hv
  obtain ⟨rfl, hv⟩ := hv
  have hI := Iv.entry hv
  have hx := B.exec
  have hb := B.bytes
  have hr := B.returns
  have hts := atoms_spec (ws := wsX9_init) B.pre
  have hown : s.vm.findClass RX9 = some m.cls := findClass_of_methodNamed B.named
  have hlocks := B.notSynchronized
  have hini : meth.name = "<init>" := (name_of_methodNamed B.named B.method).1
  have m_3 := hts _ (List.mem_cons_of_mem _ (lwg_of t_38 rfl))
  have n_oi := hts _ (List.mem_cons_of_mem _ (lwg_of t_39 rfl))
  have n_oc := hts _ (List.mem_cons_of_mem _ (lwg_of t_40 rfl))
  have nw_i9 := hts _ (List.mem_cons_of_mem _ (lwg_of t_42 rfl))
  have nw_n9 := hts _ (List.mem_cons_of_mem _ (lwg_of t_2 rfl))
  have i_RX8 : ∀ w ∈ u_ws RX8 TX8 2, w ∈ wsX9_init := fun w h => List.mem_cons_of_mem _ (iu_X8 w h)
  have nw_c9 := hts _ (List.mem_cons_of_mem _ (lwg_of t_41 rfl))
  have sp_11 := hts _ (List.mem_cons_of_mem _ (lwg_of t_2 rfl))
  have in_11 := hts _ (List.mem_cons_of_mem _ (lwg_of t_44 rfl))
  have f_12 := hts _ (List.mem_cons_of_mem _ (lwg_of t_239 rfl))
  have i_RX9 : ∀ w ∈ u_ws RX9 TX9 10, w ∈ wsX9_init := fun w h => List.mem_cons_of_mem _ (iu_X9 w h)
  have nw_i16 := hts _ (List.mem_cons_of_mem _ (lwg_of t_56 rfl))
  have nw_n16 := hts _ (List.mem_cons_of_mem _ (lwg_of t_3 rfl))
  have i_RX1 : ∀ w ∈ u_ws RX1 TX1 4, w ∈ wsX9_init := fun w h => List.mem_cons_of_mem _ (iu_X1 w h)
  have nw_c16 := hts _ (List.mem_cons_of_mem _ (lwg_of t_55 rfl))
  have sp_18 := hts _ (List.mem_cons_of_mem _ (lwg_of t_3 rfl))
  have in_18 := hts _ (List.mem_cons_of_mem _ (lwg_of t_58 rfl))
  have ml_18 := hts _ (List.mem_cons_of_mem _ (lwg_of t_57 rfl))
  have f_19 := hts _ (List.mem_cons_of_mem _ (lwg_of t_240 rfl))
  have nw_i23 := hts _ (List.mem_cons_of_mem _ (lwg_of t_76 rfl))
  have nw_n23 := hts _ (List.mem_cons_of_mem _ (lwg_of t_4 rfl))
  have i_RX5 : ∀ w ∈ u_ws RX5 TX5 4, w ∈ wsX9_init := fun w h => List.mem_cons_of_mem _ (iu_X5 w h)
  have nw_c23 := hts _ (List.mem_cons_of_mem _ (lwg_of t_75 rfl))
  have sp_25 := hts _ (List.mem_cons_of_mem _ (lwg_of t_4 rfl))
  have in_25 := hts _ (List.mem_cons_of_mem _ (lwg_of t_78 rfl))
  have ml_25 := hts _ (List.mem_cons_of_mem _ (lwg_of t_77 rfl))
  have f_26 := hts _ (List.mem_cons_of_mem _ (lwg_of t_241 rfl))
  have nw_i30 := hts _ (List.mem_cons_of_mem _ (lwg_of t_95 rfl))
  have nw_n30 := hts _ (List.mem_cons_of_mem _ (lwg_of t_5 rfl))
  have i_RX0 : ∀ w ∈ u_ws RX0 TX0 4, w ∈ wsX9_init := fun w h => List.mem_cons_of_mem _ (iu_X0 w h)
  have nw_c30 := hts _ (List.mem_cons_of_mem _ (lwg_of t_94 rfl))
  have sp_32 := hts _ (List.mem_cons_of_mem _ (lwg_of t_5 rfl))
  have in_32 := hts _ (List.mem_cons_of_mem _ (lwg_of t_97 rfl))
  have f_33 := hts _ (List.mem_cons_of_mem _ (lwg_of t_242 rfl))
  have nw_i37 := hts _ (List.mem_cons_of_mem _ (lwg_of t_114 rfl))
  have nw_n37 := hts _ (List.mem_cons_of_mem _ (lwg_of t_6 rfl))
  have i_RX3 : ∀ w ∈ u_ws RX3 TX3 4, w ∈ wsX9_init := fun w h => List.mem_cons_of_mem _ (iu_X3 w h)
  have nw_c37 := hts _ (List.mem_cons_of_mem _ (lwg_of t_113 rfl))
  have sp_39 := hts _ (List.mem_cons_of_mem _ (lwg_of t_6 rfl))
  have in_39 := hts _ (List.mem_cons_of_mem _ (lwg_of t_116 rfl))
  have f_40 := hts _ (List.mem_cons_of_mem _ (lwg_of t_243 rfl))
  have nw_i44 := hts _ (List.mem_cons_of_mem _ (lwg_of t_159 rfl))
  have nw_n44 := hts _ (List.mem_cons_of_mem _ (lwg_of t_10 rfl))
  have i_RX7 : ∀ w ∈ u_ws RX7 TX7 4, w ∈ wsX9_init := fun w h => List.mem_cons_of_mem _ (iu_X7 w h)
  have nw_c44 := hts _ (List.mem_cons_of_mem _ (lwg_of t_158 rfl))
  have sp_46 := hts _ (List.mem_cons_of_mem _ (lwg_of t_10 rfl))
  have in_46 := hts _ (List.mem_cons_of_mem _ (lwg_of t_161 rfl))
  have f_47 := hts _ (List.mem_cons_of_mem _ (lwg_of t_244 rfl))
  have nw_i51 := hts _ (List.mem_cons_of_mem _ (lwg_of t_178 rfl))
  have nw_n51 := hts _ (List.mem_cons_of_mem _ (lwg_of t_11 rfl))
  have i_RX4 : ∀ w ∈ u_ws RX4 TX4 7, w ∈ wsX9_init := fun w h => List.mem_cons_of_mem _ (iu_X4 w h)
  have nw_c51 := hts _ (List.mem_cons_of_mem _ (lwg_of t_177 rfl))
  have sp_53 := hts _ (List.mem_cons_of_mem _ (lwg_of t_11 rfl))
  have in_53 := hts _ (List.mem_cons_of_mem _ (lwg_of t_180 rfl))
  have f_54 := hts _ (List.mem_cons_of_mem _ (lwg_of t_245 rfl))
  have nw_i58 := hts _ (List.mem_cons_of_mem _ (lwg_of t_184 rfl))
  have nw_n58 := hts _ (List.mem_cons_of_mem _ (lwg_of t_12 rfl))
  have i_RX6 : ∀ w ∈ u_ws RX6 TX6 8, w ∈ wsX9_init := fun w h => List.mem_cons_of_mem _ (iu_X6 w h)
  have nw_c58 := hts _ (List.mem_cons_of_mem _ (lwg_of t_237 rfl))
  have sp_60 := hts _ (List.mem_cons_of_mem _ (lwg_of t_12 rfl))
  have in_60 := hts _ (List.mem_cons_of_mem _ (lwg_of t_186 rfl))
  have f_61 := hts _ (List.mem_cons_of_mem _ (lwg_of t_246 rfl))
  have f_65 := hts _ (List.mem_cons_of_mem _ (lwg_of t_247 rfl))
  have f_68 := hts _ (List.mem_cons_of_mem _ (lwg_of t_248 rfl))
  have hl := lv_entry ([.ref (ad 0)]) (n := 1) (Nat.le_of_ble_eq_true rfl)
  rw [lg_entry_eq]
  generalize (lg_sl ([.ref (ad 0)]) ++ List.replicate (1 - (lg_sl ([.ref (ad 0)])).length) Slot.unset).toArray = ls at hl ⊢
  have hl : lv_has ls 1 [(0, .ref (ad 0))] := hl
  refine lv_aload_n hx hb dX9_init_0 rfl (lv_at hl 0 rfl) ?_
  refine W.objInit hx hb hown m_3 n_oi n_oc rfl (by rw [hml]; exact hl.1) rfl dX9_init_1 (Nat.le_of_ble_eq_true rfl) (Nat.le_of_ble_eq_true rfl) ?_
  refine W.eq (g2 := F0 m 4 ls []) rfl ?_
  refine lv_aload_n hx hb dX9_init_4 rfl (lv_at hl 0 rfl) ?_
  refine h_new (C := RX8) (T := TX8) (N := 2) (ci := 9) (fs := [.null, .int (nI 0)]) hx hb hts i_RX8 tyX8 tyX8_ok hown nw_c9 nw_i9 nw_n9 hI rfl (fun j hj => match j, hj with | 0, _ => rfl | 1, _ => rfl | n + 2, h => absurd h (by omega)) (Nat.le_of_ble_eq_true rfl) (Nat.le_of_ble_eq_true rfl) dX9_init_5 1 fre0 (fun ad_1 M_2 H_3 hA_4 eM_5 hI => ?_)
  have hAd_7 : ∀ j : Nat, j ≠ 1 → ad_1 j = ad j := fun j hj => by obtain ⟨q, e⟩ := hA_4; rw [e]; exact va_up_ne _ _ hj
  have hm_8 : M_2 1 = some (.inr (9, [.null, .int (nI 0)])) := by rw [eM_5]; exact va_up_self _ _ _
  have hm_9 : M_2 0 = some (.inr (10, [.null, .null, .null, .null, .null, .null, .null, .null, .null, .int (nI 0)])) := by rw [eM_5, va_up_ne _ _ (by decide), h0]
  have fr_10 : M_2 2 = none := by rw [eM_5, va_up_ne _ _ (by decide)]; exact fre1
  have fr_11 : M_2 3 = none := by rw [eM_5, va_up_ne _ _ (by decide)]; exact fre2
  have fr_12 : M_2 4 = none := by rw [eM_5, va_up_ne _ _ (by decide)]; exact fre3
  have fr_13 : M_2 5 = none := by rw [eM_5, va_up_ne _ _ (by decide)]; exact fre4
  have fr_14 : M_2 6 = none := by rw [eM_5, va_up_ne _ _ (by decide)]; exact fre5
  have fr_15 : M_2 7 = none := by rw [eM_5, va_up_ne _ _ (by decide)]; exact fre6
  have fr_16 : M_2 8 = none := by rw [eM_5, va_up_ne _ _ (by decide)]; exact fre7
  have fr_17 : M_2 9 = none := by rw [eM_5, va_up_ne _ _ (by decide)]; exact fre8
  have fr_18 : M_2 10 = none := by rw [eM_5, va_up_ne _ _ (by decide)]; exact fre9
  have fr_19 : M_2 11 = none := by rw [eM_5, va_up_ne _ _ (by decide)]; exact fre10
  have fr_20 : M_2 12 = none := by rw [eM_5, va_up_ne _ _ (by decide)]; exact fre11
  have fr_21 : M_2 13 = none := by rw [eM_5, va_up_ne _ _ (by decide)]; exact fre12
  have fr_22 : M_2 14 = none := by rw [eM_5, va_up_ne _ _ (by decide)]; exact fre13
  have fr_23 : M_2 15 = none := by rw [eM_5, va_up_ne _ _ (by decide)]; exact fre14
  have fr_24 : M_2 16 = none := by rw [eM_5, va_up_ne _ _ (by decide)]; exact fre15
  have fr_25 : M_2 17 = none := by rw [eM_5, va_up_ne _ _ (by decide)]; exact fre16
  have fr_26 : M_2 19 = none := by rw [eM_5, va_up_ne _ _ (by decide)]; exact fre17
  have fr_27 : M_2 20 = none := by rw [eM_5, va_up_ne _ _ (by decide)]; exact fre18
  have fr_28 : M_2 21 = none := by rw [eM_5, va_up_ne _ _ (by decide)]; exact fre19
  have fr_29 : M_2 22 = none := by rw [eM_5, va_up_ne _ _ (by decide)]; exact fre20
  have fr_30 : M_2 23 = none := by rw [eM_5, va_up_ne _ _ (by decide)]; exact fre21
  have fr_31 : M_2 24 = none := by rw [eM_5, va_up_ne _ _ (by decide)]; exact fre22
  have fr_32 : M_2 25 = none := by rw [eM_5, va_up_ne _ _ (by decide)]; exact fre23
  have fr_33 : M_2 26 = none := by rw [eM_5, va_up_ne _ _ (by decide)]; exact fre24
  have fr_34 : M_2 27 = none := by rw [eM_5, va_up_ne _ _ (by decide)]; exact fre25
  have fr_35 : M_2 28 = none := by rw [eM_5, va_up_ne _ _ (by decide)]; exact fre26
  have fr_36 : M_2 44 = none := by rw [eM_5, va_up_ne _ _ (by decide)]; exact fre27
  have fr_37 : M_2 45 = none := by rw [eM_5, va_up_ne _ _ (by decide)]; exact fre28
  have fr_38 : M_2 46 = none := by rw [eM_5, va_up_ne _ _ (by decide)]; exact fre29
  have fr_39 : M_2 47 = none := by rw [eM_5, va_up_ne _ _ (by decide)]; exact fre30
  have fr_40 : M_2 48 = none := by rw [eM_5, va_up_ne _ _ (by decide)]; exact fre31
  have fr_41 : M_2 49 = none := by rw [eM_5, va_up_ne _ _ (by decide)]; exact fre32
  have fr_42 : M_2 50 = none := by rw [eM_5, va_up_ne _ _ (by decide)]; exact fre33
  have fr_43 : M_2 30 = none := by rw [eM_5, va_up_ne _ _ (by decide)]; exact fre34
  have fr_44 : M_2 31 = none := by rw [eM_5, va_up_ne _ _ (by decide)]; exact fre35
  have fr_45 : M_2 32 = none := by rw [eM_5, va_up_ne _ _ (by decide)]; exact fre36
  have fr_46 : M_2 33 = none := by rw [eM_5, va_up_ne _ _ (by decide)]; exact fre37
  have fr_47 : M_2 34 = none := by rw [eM_5, va_up_ne _ _ (by decide)]; exact fre38
  have fr_48 : M_2 35 = none := by rw [eM_5, va_up_ne _ _ (by decide)]; exact fre39
  have fr_49 : M_2 36 = none := by rw [eM_5, va_up_ne _ _ (by decide)]; exact fre40
  have fr_50 : M_2 37 = none := by rw [eM_5, va_up_ne _ _ (by decide)]; exact fre41
  have fr_51 : M_2 38 = none := by rw [eM_5, va_up_ne _ _ (by decide)]; exact fre42
  have fr_52 : M_2 39 = none := by rw [eM_5, va_up_ne _ _ (by decide)]; exact fre43
  have fr_53 : M_2 40 = none := by rw [eM_5, va_up_ne _ _ (by decide)]; exact fre44
  have fr_54 : M_2 41 = none := by rw [eM_5, va_up_ne _ _ (by decide)]; exact fre45
  have fr_55 : M_2 42 = none := by rw [eM_5, va_up_ne _ _ (by decide)]; exact fre46
  have fr_56 : M_2 43 = none := by rw [eM_5, va_up_ne _ _ (by decide)]; exact fre47
  have hF_57 : ∀ j : Nat, j ≠ 1 → M_2 j = M j := fun j q0 => by rw [eM_5, va_up_ne _ _ q0]
  refine n_eqs (show ([.ref (ad_1 1), .ref (ad 0)] : List Value) = [.ref (ad_1 1), .ref (ad_1 0)] from by rw [hAd_7 0 (by decide)]) ?_
  refine lv_dup hx hb dX9_init_8 rfl ?_
  refine k_Av (va_runIN (As := []) (rest := [.ref (ad_1 1), .ref (ad_1 0)]) ⟨hx, hb, hml, hown, hts⟩ (c_X8_init l G z ad_1 M_2  hm_8 fr_10) ⟨va_cnB 0 hts (gU (lwg_of t_45 rfl)) rfl rfl rfl (nwm_at (i := 0) (q := ("LineStore", 11, ⟨"LineStore$Tape", "<init>", "()V"⟩, "LineStore")) hI rfl) sp_11 (by decide +kernel) ⟨Nat.le_of_ble_eq_true rfl, Nat.le_of_ble_eq_true rfl⟩, rfl, in_11⟩ hI.preS rfl rfl hl.1 rfl (lv_room (Nat.le_of_ble_eq_true rfl)) dX9_init_9 ⟨Nat.le_of_ble_eq_true rfl, Nat.le_of_ble_eq_true rfl⟩) hI (fun ad_63 M_60 H_61 locs_62 hp_59 hI => ?_)
  obtain ⟨hm_64, hm_65, hF_66, hAd_67⟩ := hp_59
  have hm_68 : M_60 1 = some (cTape ad_63 0) := hm_64
  have hm_69 : M_60 2 = some (aI G 400 (nF (fun _ => 0))) := hm_65
  have hAd_70 : ∀ j : Nat, j ≠ 2 → ad_63 j = ad_1 j := hAd_67
  have hF_71 : ∀ j : Nat, j ≠ 1 → j ≠ 2 → M_60 j = M_2 j := hF_66
  have hm_72 : M_60 0 = some (.inr (10, [.null, .null, .null, .null, .null, .null, .null, .null, .null, .int (nI 0)])) := by rw [hF_71 0 (by decide) (by decide), hm_9]
  have fr_73 : M_60 3 = none := by rw [hF_71 3 (by decide) (by decide)]; exact fr_11
  have fr_74 : M_60 4 = none := by rw [hF_71 4 (by decide) (by decide)]; exact fr_12
  have fr_75 : M_60 5 = none := by rw [hF_71 5 (by decide) (by decide)]; exact fr_13
  have fr_76 : M_60 6 = none := by rw [hF_71 6 (by decide) (by decide)]; exact fr_14
  have fr_77 : M_60 7 = none := by rw [hF_71 7 (by decide) (by decide)]; exact fr_15
  have fr_78 : M_60 8 = none := by rw [hF_71 8 (by decide) (by decide)]; exact fr_16
  have fr_79 : M_60 9 = none := by rw [hF_71 9 (by decide) (by decide)]; exact fr_17
  have fr_80 : M_60 10 = none := by rw [hF_71 10 (by decide) (by decide)]; exact fr_18
  have fr_81 : M_60 11 = none := by rw [hF_71 11 (by decide) (by decide)]; exact fr_19
  have fr_82 : M_60 12 = none := by rw [hF_71 12 (by decide) (by decide)]; exact fr_20
  have fr_83 : M_60 13 = none := by rw [hF_71 13 (by decide) (by decide)]; exact fr_21
  have fr_84 : M_60 14 = none := by rw [hF_71 14 (by decide) (by decide)]; exact fr_22
  have fr_85 : M_60 15 = none := by rw [hF_71 15 (by decide) (by decide)]; exact fr_23
  have fr_86 : M_60 16 = none := by rw [hF_71 16 (by decide) (by decide)]; exact fr_24
  have fr_87 : M_60 17 = none := by rw [hF_71 17 (by decide) (by decide)]; exact fr_25
  have fr_88 : M_60 19 = none := by rw [hF_71 19 (by decide) (by decide)]; exact fr_26
  have fr_89 : M_60 20 = none := by rw [hF_71 20 (by decide) (by decide)]; exact fr_27
  have fr_90 : M_60 21 = none := by rw [hF_71 21 (by decide) (by decide)]; exact fr_28
  have fr_91 : M_60 22 = none := by rw [hF_71 22 (by decide) (by decide)]; exact fr_29
  have fr_92 : M_60 23 = none := by rw [hF_71 23 (by decide) (by decide)]; exact fr_30
  have fr_93 : M_60 24 = none := by rw [hF_71 24 (by decide) (by decide)]; exact fr_31
  have fr_94 : M_60 25 = none := by rw [hF_71 25 (by decide) (by decide)]; exact fr_32
  have fr_95 : M_60 26 = none := by rw [hF_71 26 (by decide) (by decide)]; exact fr_33
  have fr_96 : M_60 27 = none := by rw [hF_71 27 (by decide) (by decide)]; exact fr_34
  have fr_97 : M_60 28 = none := by rw [hF_71 28 (by decide) (by decide)]; exact fr_35
  have fr_98 : M_60 44 = none := by rw [hF_71 44 (by decide) (by decide)]; exact fr_36
  have fr_99 : M_60 45 = none := by rw [hF_71 45 (by decide) (by decide)]; exact fr_37
  have fr_100 : M_60 46 = none := by rw [hF_71 46 (by decide) (by decide)]; exact fr_38
  have fr_101 : M_60 47 = none := by rw [hF_71 47 (by decide) (by decide)]; exact fr_39
  have fr_102 : M_60 48 = none := by rw [hF_71 48 (by decide) (by decide)]; exact fr_40
  have fr_103 : M_60 49 = none := by rw [hF_71 49 (by decide) (by decide)]; exact fr_41
  have fr_104 : M_60 50 = none := by rw [hF_71 50 (by decide) (by decide)]; exact fr_42
  have fr_105 : M_60 30 = none := by rw [hF_71 30 (by decide) (by decide)]; exact fr_43
  have fr_106 : M_60 31 = none := by rw [hF_71 31 (by decide) (by decide)]; exact fr_44
  have fr_107 : M_60 32 = none := by rw [hF_71 32 (by decide) (by decide)]; exact fr_45
  have fr_108 : M_60 33 = none := by rw [hF_71 33 (by decide) (by decide)]; exact fr_46
  have fr_109 : M_60 34 = none := by rw [hF_71 34 (by decide) (by decide)]; exact fr_47
  have fr_110 : M_60 35 = none := by rw [hF_71 35 (by decide) (by decide)]; exact fr_48
  have fr_111 : M_60 36 = none := by rw [hF_71 36 (by decide) (by decide)]; exact fr_49
  have fr_112 : M_60 37 = none := by rw [hF_71 37 (by decide) (by decide)]; exact fr_50
  have fr_113 : M_60 38 = none := by rw [hF_71 38 (by decide) (by decide)]; exact fr_51
  have fr_114 : M_60 39 = none := by rw [hF_71 39 (by decide) (by decide)]; exact fr_52
  have fr_115 : M_60 40 = none := by rw [hF_71 40 (by decide) (by decide)]; exact fr_53
  have fr_116 : M_60 41 = none := by rw [hF_71 41 (by decide) (by decide)]; exact fr_54
  have fr_117 : M_60 42 = none := by rw [hF_71 42 (by decide) (by decide)]; exact fr_55
  have fr_118 : M_60 43 = none := by rw [hF_71 43 (by decide) (by decide)]; exact fr_56
  clear hm_9 fr_11 fr_12 fr_13 fr_14 fr_15 fr_16 fr_17 fr_18 fr_19 fr_20 fr_21 fr_22 fr_23 fr_24 fr_25 fr_26 fr_27 fr_28 fr_29 fr_30 fr_31 fr_32 fr_33 fr_34 fr_35 fr_36 fr_37 fr_38 fr_39 fr_40 fr_41 fr_42 fr_43 fr_44 fr_45 fr_46 fr_47 fr_48 fr_49 fr_50 fr_51 fr_52 fr_53 fr_54 fr_55 fr_56
  have hF_119 : ∀ j : Nat, j ≠ 1 → j ≠ 2 → M_60 j = M j := fun j q0 q1 => (hF_71 j q0 q1).trans (hF_57 j q0)
  clear hF_57 hF_66
  refine n_eqs (show ([.ref (ad_1 1), .ref (ad_1 0)] : List Value) = [.ref (ad_63 1), .ref (ad_63 0)] from by rw [hAd_70 1 (by decide), hAd_70 0 (by decide)]) ?_
  refine h_putF (C := RX9) (T := TX9) (N := 10) hx hb hts i_RX9 tyX9 tyX9_ok nmX9 hown hI hm_72 rfl 0 (by decide) f_12 rfl rfl hini rfl rfl rfl (Nat.le_of_ble_eq_true rfl) dX9_init_12 (fun M_120 H_121 locs_122 eM_123 hI => ?_)
  have hm_124 : M_120 0 = some (.inr (10, [.ref (ad_63 1), .null, .null, .null, .null, .null, .null, .null, .null, .int (nI 0)])) := by rw [eM_123]; exact va_up_self _ _ _
  have hm_125 : M_120 1 = some (cTape ad_63 0) := by rw [eM_123, va_up_ne _ _ (by decide)]; exact hm_68
  have hm_126 : M_120 2 = some (aI G 400 (nF (fun _ => 0))) := by rw [eM_123, va_up_ne _ _ (by decide)]; exact hm_69
  have fr_127 : M_120 3 = none := by rw [eM_123, va_up_ne _ _ (by decide)]; exact fr_73
  have fr_128 : M_120 4 = none := by rw [eM_123, va_up_ne _ _ (by decide)]; exact fr_74
  have fr_129 : M_120 5 = none := by rw [eM_123, va_up_ne _ _ (by decide)]; exact fr_75
  have fr_130 : M_120 6 = none := by rw [eM_123, va_up_ne _ _ (by decide)]; exact fr_76
  have fr_131 : M_120 7 = none := by rw [eM_123, va_up_ne _ _ (by decide)]; exact fr_77
  have fr_132 : M_120 8 = none := by rw [eM_123, va_up_ne _ _ (by decide)]; exact fr_78
  have fr_133 : M_120 9 = none := by rw [eM_123, va_up_ne _ _ (by decide)]; exact fr_79
  have fr_134 : M_120 10 = none := by rw [eM_123, va_up_ne _ _ (by decide)]; exact fr_80
  have fr_135 : M_120 11 = none := by rw [eM_123, va_up_ne _ _ (by decide)]; exact fr_81
  have fr_136 : M_120 12 = none := by rw [eM_123, va_up_ne _ _ (by decide)]; exact fr_82
  have fr_137 : M_120 13 = none := by rw [eM_123, va_up_ne _ _ (by decide)]; exact fr_83
  have fr_138 : M_120 14 = none := by rw [eM_123, va_up_ne _ _ (by decide)]; exact fr_84
  have fr_139 : M_120 15 = none := by rw [eM_123, va_up_ne _ _ (by decide)]; exact fr_85
  have fr_140 : M_120 16 = none := by rw [eM_123, va_up_ne _ _ (by decide)]; exact fr_86
  have fr_141 : M_120 17 = none := by rw [eM_123, va_up_ne _ _ (by decide)]; exact fr_87
  have fr_142 : M_120 19 = none := by rw [eM_123, va_up_ne _ _ (by decide)]; exact fr_88
  have fr_143 : M_120 20 = none := by rw [eM_123, va_up_ne _ _ (by decide)]; exact fr_89
  have fr_144 : M_120 21 = none := by rw [eM_123, va_up_ne _ _ (by decide)]; exact fr_90
  have fr_145 : M_120 22 = none := by rw [eM_123, va_up_ne _ _ (by decide)]; exact fr_91
  have fr_146 : M_120 23 = none := by rw [eM_123, va_up_ne _ _ (by decide)]; exact fr_92
  have fr_147 : M_120 24 = none := by rw [eM_123, va_up_ne _ _ (by decide)]; exact fr_93
  have fr_148 : M_120 25 = none := by rw [eM_123, va_up_ne _ _ (by decide)]; exact fr_94
  have fr_149 : M_120 26 = none := by rw [eM_123, va_up_ne _ _ (by decide)]; exact fr_95
  have fr_150 : M_120 27 = none := by rw [eM_123, va_up_ne _ _ (by decide)]; exact fr_96
  have fr_151 : M_120 28 = none := by rw [eM_123, va_up_ne _ _ (by decide)]; exact fr_97
  have fr_152 : M_120 44 = none := by rw [eM_123, va_up_ne _ _ (by decide)]; exact fr_98
  have fr_153 : M_120 45 = none := by rw [eM_123, va_up_ne _ _ (by decide)]; exact fr_99
  have fr_154 : M_120 46 = none := by rw [eM_123, va_up_ne _ _ (by decide)]; exact fr_100
  have fr_155 : M_120 47 = none := by rw [eM_123, va_up_ne _ _ (by decide)]; exact fr_101
  have fr_156 : M_120 48 = none := by rw [eM_123, va_up_ne _ _ (by decide)]; exact fr_102
  have fr_157 : M_120 49 = none := by rw [eM_123, va_up_ne _ _ (by decide)]; exact fr_103
  have fr_158 : M_120 50 = none := by rw [eM_123, va_up_ne _ _ (by decide)]; exact fr_104
  have fr_159 : M_120 30 = none := by rw [eM_123, va_up_ne _ _ (by decide)]; exact fr_105
  have fr_160 : M_120 31 = none := by rw [eM_123, va_up_ne _ _ (by decide)]; exact fr_106
  have fr_161 : M_120 32 = none := by rw [eM_123, va_up_ne _ _ (by decide)]; exact fr_107
  have fr_162 : M_120 33 = none := by rw [eM_123, va_up_ne _ _ (by decide)]; exact fr_108
  have fr_163 : M_120 34 = none := by rw [eM_123, va_up_ne _ _ (by decide)]; exact fr_109
  have fr_164 : M_120 35 = none := by rw [eM_123, va_up_ne _ _ (by decide)]; exact fr_110
  have fr_165 : M_120 36 = none := by rw [eM_123, va_up_ne _ _ (by decide)]; exact fr_111
  have fr_166 : M_120 37 = none := by rw [eM_123, va_up_ne _ _ (by decide)]; exact fr_112
  have fr_167 : M_120 38 = none := by rw [eM_123, va_up_ne _ _ (by decide)]; exact fr_113
  have fr_168 : M_120 39 = none := by rw [eM_123, va_up_ne _ _ (by decide)]; exact fr_114
  have fr_169 : M_120 40 = none := by rw [eM_123, va_up_ne _ _ (by decide)]; exact fr_115
  have fr_170 : M_120 41 = none := by rw [eM_123, va_up_ne _ _ (by decide)]; exact fr_116
  have fr_171 : M_120 42 = none := by rw [eM_123, va_up_ne _ _ (by decide)]; exact fr_117
  have fr_172 : M_120 43 = none := by rw [eM_123, va_up_ne _ _ (by decide)]; exact fr_118
  have hF_173 : ∀ j : Nat, j ≠ 1 → j ≠ 2 → j ≠ 0 → M_120 j = M j := fun j q0 q1 q2 => by rw [eM_123, va_up_ne _ _ q2]; exact hF_119 j q0 q1
  clear hm_72 hm_68 hm_69 fr_73 fr_74 fr_75 fr_76 fr_77 fr_78 fr_79 fr_80 fr_81 fr_82 fr_83 fr_84 fr_85 fr_86 fr_87 fr_88 fr_89 fr_90 fr_91 fr_92 fr_93 fr_94 fr_95 fr_96 fr_97 fr_98 fr_99 fr_100 fr_101 fr_102 fr_103 fr_104 fr_105 fr_106 fr_107 fr_108 fr_109 fr_110 fr_111 fr_112 fr_113 fr_114 fr_115 fr_116 fr_117 fr_118 hF_119
  refine lv_aload_n hx hb dX9_init_15 rfl (lv_at hl 0 rfl) ?_
  refine n_eqv (show Value.ref (ad 0) = .ref (ad_63 0) from by rw [hAd_70 0 (by decide), hAd_7 0 (by decide)]) ?_
  refine h_new (C := RX1) (T := TX1) (N := 4) (ci := 2) (fs := [.null, .null, .null, .null]) hx hb hts i_RX1 tyX1 tyX1_ok hown nw_c16 nw_i16 nw_n16 hI rfl (fun j hj => match j, hj with | 0, _ => rfl | 1, _ => rfl | 2, _ => rfl | 3, _ => rfl | n + 4, h => absurd h (by omega)) (Nat.le_of_ble_eq_true rfl) (Nat.le_of_ble_eq_true rfl) dX9_init_16 3 fr_127 (fun ad_174 M_175 H_176 hA_177 eM_178 hI => ?_)
  have hAd_180 : ∀ j : Nat, j ≠ 3 → ad_174 j = ad_63 j := fun j hj => by obtain ⟨q, e⟩ := hA_177; rw [e]; exact va_up_ne _ _ hj
  have hm_181 : M_175 3 = some (.inr (2, [.null, .null, .null, .null])) := by rw [eM_178]; exact va_up_self _ _ _
  have hm_182 : M_175 0 = some (.inr (10, [.ref (ad_174 1), .null, .null, .null, .null, .null, .null, .null, .null, .int (nI 0)])) := by rw [eM_178, va_up_ne _ _ (by decide), hm_124]; rw [hAd_180 1 (by decide)]
  have hm_183 : M_175 1 = some (cTape ad_174 0) := by rw [eM_178, va_up_ne _ _ (by decide), hm_125]; simp only [cTape, hAd_180 2 (by decide)]
  have hm_184 : M_175 2 = some (aI G 400 (nF (fun _ => 0))) := by rw [eM_178, va_up_ne _ _ (by decide), hm_126]
  have fr_185 : M_175 4 = none := by rw [eM_178, va_up_ne _ _ (by decide)]; exact fr_128
  have fr_186 : M_175 5 = none := by rw [eM_178, va_up_ne _ _ (by decide)]; exact fr_129
  have fr_187 : M_175 6 = none := by rw [eM_178, va_up_ne _ _ (by decide)]; exact fr_130
  have fr_188 : M_175 7 = none := by rw [eM_178, va_up_ne _ _ (by decide)]; exact fr_131
  have fr_189 : M_175 8 = none := by rw [eM_178, va_up_ne _ _ (by decide)]; exact fr_132
  have fr_190 : M_175 9 = none := by rw [eM_178, va_up_ne _ _ (by decide)]; exact fr_133
  have fr_191 : M_175 10 = none := by rw [eM_178, va_up_ne _ _ (by decide)]; exact fr_134
  have fr_192 : M_175 11 = none := by rw [eM_178, va_up_ne _ _ (by decide)]; exact fr_135
  have fr_193 : M_175 12 = none := by rw [eM_178, va_up_ne _ _ (by decide)]; exact fr_136
  have fr_194 : M_175 13 = none := by rw [eM_178, va_up_ne _ _ (by decide)]; exact fr_137
  have fr_195 : M_175 14 = none := by rw [eM_178, va_up_ne _ _ (by decide)]; exact fr_138
  have fr_196 : M_175 15 = none := by rw [eM_178, va_up_ne _ _ (by decide)]; exact fr_139
  have fr_197 : M_175 16 = none := by rw [eM_178, va_up_ne _ _ (by decide)]; exact fr_140
  have fr_198 : M_175 17 = none := by rw [eM_178, va_up_ne _ _ (by decide)]; exact fr_141
  have fr_199 : M_175 19 = none := by rw [eM_178, va_up_ne _ _ (by decide)]; exact fr_142
  have fr_200 : M_175 20 = none := by rw [eM_178, va_up_ne _ _ (by decide)]; exact fr_143
  have fr_201 : M_175 21 = none := by rw [eM_178, va_up_ne _ _ (by decide)]; exact fr_144
  have fr_202 : M_175 22 = none := by rw [eM_178, va_up_ne _ _ (by decide)]; exact fr_145
  have fr_203 : M_175 23 = none := by rw [eM_178, va_up_ne _ _ (by decide)]; exact fr_146
  have fr_204 : M_175 24 = none := by rw [eM_178, va_up_ne _ _ (by decide)]; exact fr_147
  have fr_205 : M_175 25 = none := by rw [eM_178, va_up_ne _ _ (by decide)]; exact fr_148
  have fr_206 : M_175 26 = none := by rw [eM_178, va_up_ne _ _ (by decide)]; exact fr_149
  have fr_207 : M_175 27 = none := by rw [eM_178, va_up_ne _ _ (by decide)]; exact fr_150
  have fr_208 : M_175 28 = none := by rw [eM_178, va_up_ne _ _ (by decide)]; exact fr_151
  have fr_209 : M_175 44 = none := by rw [eM_178, va_up_ne _ _ (by decide)]; exact fr_152
  have fr_210 : M_175 45 = none := by rw [eM_178, va_up_ne _ _ (by decide)]; exact fr_153
  have fr_211 : M_175 46 = none := by rw [eM_178, va_up_ne _ _ (by decide)]; exact fr_154
  have fr_212 : M_175 47 = none := by rw [eM_178, va_up_ne _ _ (by decide)]; exact fr_155
  have fr_213 : M_175 48 = none := by rw [eM_178, va_up_ne _ _ (by decide)]; exact fr_156
  have fr_214 : M_175 49 = none := by rw [eM_178, va_up_ne _ _ (by decide)]; exact fr_157
  have fr_215 : M_175 50 = none := by rw [eM_178, va_up_ne _ _ (by decide)]; exact fr_158
  have fr_216 : M_175 30 = none := by rw [eM_178, va_up_ne _ _ (by decide)]; exact fr_159
  have fr_217 : M_175 31 = none := by rw [eM_178, va_up_ne _ _ (by decide)]; exact fr_160
  have fr_218 : M_175 32 = none := by rw [eM_178, va_up_ne _ _ (by decide)]; exact fr_161
  have fr_219 : M_175 33 = none := by rw [eM_178, va_up_ne _ _ (by decide)]; exact fr_162
  have fr_220 : M_175 34 = none := by rw [eM_178, va_up_ne _ _ (by decide)]; exact fr_163
  have fr_221 : M_175 35 = none := by rw [eM_178, va_up_ne _ _ (by decide)]; exact fr_164
  have fr_222 : M_175 36 = none := by rw [eM_178, va_up_ne _ _ (by decide)]; exact fr_165
  have fr_223 : M_175 37 = none := by rw [eM_178, va_up_ne _ _ (by decide)]; exact fr_166
  have fr_224 : M_175 38 = none := by rw [eM_178, va_up_ne _ _ (by decide)]; exact fr_167
  have fr_225 : M_175 39 = none := by rw [eM_178, va_up_ne _ _ (by decide)]; exact fr_168
  have fr_226 : M_175 40 = none := by rw [eM_178, va_up_ne _ _ (by decide)]; exact fr_169
  have fr_227 : M_175 41 = none := by rw [eM_178, va_up_ne _ _ (by decide)]; exact fr_170
  have fr_228 : M_175 42 = none := by rw [eM_178, va_up_ne _ _ (by decide)]; exact fr_171
  have fr_229 : M_175 43 = none := by rw [eM_178, va_up_ne _ _ (by decide)]; exact fr_172
  clear hm_124 hm_125 hm_126 fr_128 fr_129 fr_130 fr_131 fr_132 fr_133 fr_134 fr_135 fr_136 fr_137 fr_138 fr_139 fr_140 fr_141 fr_142 fr_143 fr_144 fr_145 fr_146 fr_147 fr_148 fr_149 fr_150 fr_151 fr_152 fr_153 fr_154 fr_155 fr_156 fr_157 fr_158 fr_159 fr_160 fr_161 fr_162 fr_163 fr_164 fr_165 fr_166 fr_167 fr_168 fr_169 fr_170 fr_171 fr_172
  have hF_230 : ∀ j : Nat, j ≠ 1 → j ≠ 2 → j ≠ 0 → j ≠ 3 → M_175 j = M j := fun j q0 q1 q2 q3 => by rw [eM_178, va_up_ne _ _ q3]; exact hF_173 j q0 q1 q2
  clear hF_173
  refine n_eqs (show ([.ref (ad_174 3), .ref (ad_63 0)] : List Value) = [.ref (ad_174 3), .ref (ad_174 0)] from by rw [hAd_180 0 (by decide)]) ?_
  refine lv_dup hx hb dX9_init_19 rfl ?_
  refine k_Av (va_runI (As := []) (rest := [.ref (ad_174 3), .ref (ad_174 0)]) ⟨hx, hb, hml, hown, hts⟩ (c_X1_init l G z ad_174 M_175  hm_181 fr_185 fr_186 fr_187 fr_188) (cwI 0 hts (gU (lwg_of t_59 rfl)) rfl rfl rfl sp_18 ml_18 in_18 rfl (by decide +kernel) ⟨Nat.le_of_ble_eq_true rfl, Nat.le_of_ble_eq_true rfl⟩) hI.preS rfl rfl hl.1 rfl (lv_room (Nat.le_of_ble_eq_true rfl)) dX9_init_20 ⟨Nat.le_of_ble_eq_true rfl, Nat.le_of_ble_eq_true rfl⟩) hI (fun ad_236 M_233 H_234 locs_235 hp_232 hI => ?_)
  obtain ⟨mo_245, ho_246, hm_237, hm_238, hm_239, hm_240, hm_241, hF_242, hAd_243, hP_244⟩ := hp_232
  have hm_247 : M_233 3 = some (cLaws ad_236 ) := hm_237
  have hm_248 : M_233 4 = some (aI G 36 (nF (fun _ => 0))) := hm_238
  have hm_249 : M_233 5 = some (aI G 36 (nF mo_245)) := hm_239
  have hm_250 : M_233 6 = some (aI G 36 (nF (fun _ => 0))) := hm_240
  have hm_251 : M_233 7 = some (aZ G 6 (bF ho_246)) := hm_241
  have hAd_252 : ∀ j : Nat, j ≠ 4 → j ≠ 5 → j ≠ 6 → j ≠ 7 → ad_236 j = ad_174 j := hAd_243
  have hF_253 : ∀ j : Nat, j ≠ 3 → j ≠ 4 → j ≠ 5 → j ≠ 6 → j ≠ 7 → M_233 j = M_175 j := hF_242
  have hm_254 : M_233 0 = some (.inr (10, [.ref (ad_236 1), .null, .null, .null, .null, .null, .null, .null, .null, .int (nI 0)])) := by rw [hF_253 0 (by decide) (by decide) (by decide) (by decide) (by decide), hm_182]; rw [hAd_252 1 (by decide) (by decide) (by decide) (by decide)]
  have hm_255 : M_233 1 = some (cTape ad_236 0) := by rw [hF_253 1 (by decide) (by decide) (by decide) (by decide) (by decide), hm_183]; simp only [cTape, hAd_252 2 (by decide) (by decide) (by decide) (by decide)]
  have hm_256 : M_233 2 = some (aI G 400 (nF (fun _ => 0))) := by rw [hF_253 2 (by decide) (by decide) (by decide) (by decide) (by decide), hm_184]
  have fr_257 : M_233 8 = none := by rw [hF_253 8 (by decide) (by decide) (by decide) (by decide) (by decide)]; exact fr_189
  have fr_258 : M_233 9 = none := by rw [hF_253 9 (by decide) (by decide) (by decide) (by decide) (by decide)]; exact fr_190
  have fr_259 : M_233 10 = none := by rw [hF_253 10 (by decide) (by decide) (by decide) (by decide) (by decide)]; exact fr_191
  have fr_260 : M_233 11 = none := by rw [hF_253 11 (by decide) (by decide) (by decide) (by decide) (by decide)]; exact fr_192
  have fr_261 : M_233 12 = none := by rw [hF_253 12 (by decide) (by decide) (by decide) (by decide) (by decide)]; exact fr_193
  have fr_262 : M_233 13 = none := by rw [hF_253 13 (by decide) (by decide) (by decide) (by decide) (by decide)]; exact fr_194
  have fr_263 : M_233 14 = none := by rw [hF_253 14 (by decide) (by decide) (by decide) (by decide) (by decide)]; exact fr_195
  have fr_264 : M_233 15 = none := by rw [hF_253 15 (by decide) (by decide) (by decide) (by decide) (by decide)]; exact fr_196
  have fr_265 : M_233 16 = none := by rw [hF_253 16 (by decide) (by decide) (by decide) (by decide) (by decide)]; exact fr_197
  have fr_266 : M_233 17 = none := by rw [hF_253 17 (by decide) (by decide) (by decide) (by decide) (by decide)]; exact fr_198
  have fr_267 : M_233 19 = none := by rw [hF_253 19 (by decide) (by decide) (by decide) (by decide) (by decide)]; exact fr_199
  have fr_268 : M_233 20 = none := by rw [hF_253 20 (by decide) (by decide) (by decide) (by decide) (by decide)]; exact fr_200
  have fr_269 : M_233 21 = none := by rw [hF_253 21 (by decide) (by decide) (by decide) (by decide) (by decide)]; exact fr_201
  have fr_270 : M_233 22 = none := by rw [hF_253 22 (by decide) (by decide) (by decide) (by decide) (by decide)]; exact fr_202
  have fr_271 : M_233 23 = none := by rw [hF_253 23 (by decide) (by decide) (by decide) (by decide) (by decide)]; exact fr_203
  have fr_272 : M_233 24 = none := by rw [hF_253 24 (by decide) (by decide) (by decide) (by decide) (by decide)]; exact fr_204
  have fr_273 : M_233 25 = none := by rw [hF_253 25 (by decide) (by decide) (by decide) (by decide) (by decide)]; exact fr_205
  have fr_274 : M_233 26 = none := by rw [hF_253 26 (by decide) (by decide) (by decide) (by decide) (by decide)]; exact fr_206
  have fr_275 : M_233 27 = none := by rw [hF_253 27 (by decide) (by decide) (by decide) (by decide) (by decide)]; exact fr_207
  have fr_276 : M_233 28 = none := by rw [hF_253 28 (by decide) (by decide) (by decide) (by decide) (by decide)]; exact fr_208
  have fr_277 : M_233 44 = none := by rw [hF_253 44 (by decide) (by decide) (by decide) (by decide) (by decide)]; exact fr_209
  have fr_278 : M_233 45 = none := by rw [hF_253 45 (by decide) (by decide) (by decide) (by decide) (by decide)]; exact fr_210
  have fr_279 : M_233 46 = none := by rw [hF_253 46 (by decide) (by decide) (by decide) (by decide) (by decide)]; exact fr_211
  have fr_280 : M_233 47 = none := by rw [hF_253 47 (by decide) (by decide) (by decide) (by decide) (by decide)]; exact fr_212
  have fr_281 : M_233 48 = none := by rw [hF_253 48 (by decide) (by decide) (by decide) (by decide) (by decide)]; exact fr_213
  have fr_282 : M_233 49 = none := by rw [hF_253 49 (by decide) (by decide) (by decide) (by decide) (by decide)]; exact fr_214
  have fr_283 : M_233 50 = none := by rw [hF_253 50 (by decide) (by decide) (by decide) (by decide) (by decide)]; exact fr_215
  have fr_284 : M_233 30 = none := by rw [hF_253 30 (by decide) (by decide) (by decide) (by decide) (by decide)]; exact fr_216
  have fr_285 : M_233 31 = none := by rw [hF_253 31 (by decide) (by decide) (by decide) (by decide) (by decide)]; exact fr_217
  have fr_286 : M_233 32 = none := by rw [hF_253 32 (by decide) (by decide) (by decide) (by decide) (by decide)]; exact fr_218
  have fr_287 : M_233 33 = none := by rw [hF_253 33 (by decide) (by decide) (by decide) (by decide) (by decide)]; exact fr_219
  have fr_288 : M_233 34 = none := by rw [hF_253 34 (by decide) (by decide) (by decide) (by decide) (by decide)]; exact fr_220
  have fr_289 : M_233 35 = none := by rw [hF_253 35 (by decide) (by decide) (by decide) (by decide) (by decide)]; exact fr_221
  have fr_290 : M_233 36 = none := by rw [hF_253 36 (by decide) (by decide) (by decide) (by decide) (by decide)]; exact fr_222
  have fr_291 : M_233 37 = none := by rw [hF_253 37 (by decide) (by decide) (by decide) (by decide) (by decide)]; exact fr_223
  have fr_292 : M_233 38 = none := by rw [hF_253 38 (by decide) (by decide) (by decide) (by decide) (by decide)]; exact fr_224
  have fr_293 : M_233 39 = none := by rw [hF_253 39 (by decide) (by decide) (by decide) (by decide) (by decide)]; exact fr_225
  have fr_294 : M_233 40 = none := by rw [hF_253 40 (by decide) (by decide) (by decide) (by decide) (by decide)]; exact fr_226
  have fr_295 : M_233 41 = none := by rw [hF_253 41 (by decide) (by decide) (by decide) (by decide) (by decide)]; exact fr_227
  have fr_296 : M_233 42 = none := by rw [hF_253 42 (by decide) (by decide) (by decide) (by decide) (by decide)]; exact fr_228
  have fr_297 : M_233 43 = none := by rw [hF_253 43 (by decide) (by decide) (by decide) (by decide) (by decide)]; exact fr_229
  clear hm_182 hm_183 hm_184 fr_189 fr_190 fr_191 fr_192 fr_193 fr_194 fr_195 fr_196 fr_197 fr_198 fr_199 fr_200 fr_201 fr_202 fr_203 fr_204 fr_205 fr_206 fr_207 fr_208 fr_209 fr_210 fr_211 fr_212 fr_213 fr_214 fr_215 fr_216 fr_217 fr_218 fr_219 fr_220 fr_221 fr_222 fr_223 fr_224 fr_225 fr_226 fr_227 fr_228 fr_229
  have hF_298 : ∀ j : Nat, j ≠ 1 → j ≠ 2 → j ≠ 0 → j ≠ 3 → j ≠ 4 → j ≠ 5 → j ≠ 6 → j ≠ 7 → M_233 j = M j := fun j q0 q1 q2 q3 q4 q5 q6 q7 => (hF_253 j q3 q4 q5 q6 q7).trans (hF_230 j q0 q1 q2 q3)
  clear hF_230 hF_242
  refine n_eqs (show ([.ref (ad_174 3), .ref (ad_174 0)] : List Value) = [.ref (ad_236 3), .ref (ad_236 0)] from by rw [hAd_252 3 (by decide) (by decide) (by decide) (by decide), hAd_252 0 (by decide) (by decide) (by decide) (by decide)]) ?_
  refine h_putF (C := RX9) (T := TX9) (N := 10) hx hb hts i_RX9 tyX9 tyX9_ok nmX9 hown hI hm_254 rfl 1 (by decide) f_19 rfl rfl hini rfl rfl rfl (Nat.le_of_ble_eq_true rfl) dX9_init_23 (fun M_299 H_300 locs_301 eM_302 hI => ?_)
  have hm_303 : M_299 0 = some (.inr (10, [.ref (ad_236 1), .ref (ad_236 3), .null, .null, .null, .null, .null, .null, .null, .int (nI 0)])) := by rw [eM_302]; exact va_up_self _ _ _
  have hm_304 : M_299 1 = some (cTape ad_236 0) := by rw [eM_302, va_up_ne _ _ (by decide)]; exact hm_255
  have hm_305 : M_299 2 = some (aI G 400 (nF (fun _ => 0))) := by rw [eM_302, va_up_ne _ _ (by decide)]; exact hm_256
  have hm_306 : M_299 3 = some (cLaws ad_236 ) := by rw [eM_302, va_up_ne _ _ (by decide)]; exact hm_247
  have hm_307 : M_299 4 = some (aI G 36 (nF (fun _ => 0))) := by rw [eM_302, va_up_ne _ _ (by decide)]; exact hm_248
  have hm_308 : M_299 5 = some (aI G 36 (nF mo_245)) := by rw [eM_302, va_up_ne _ _ (by decide)]; exact hm_249
  have hm_309 : M_299 6 = some (aI G 36 (nF (fun _ => 0))) := by rw [eM_302, va_up_ne _ _ (by decide)]; exact hm_250
  have hm_310 : M_299 7 = some (aZ G 6 (bF ho_246)) := by rw [eM_302, va_up_ne _ _ (by decide)]; exact hm_251
  have fr_311 : M_299 8 = none := by rw [eM_302, va_up_ne _ _ (by decide)]; exact fr_257
  have fr_312 : M_299 9 = none := by rw [eM_302, va_up_ne _ _ (by decide)]; exact fr_258
  have fr_313 : M_299 10 = none := by rw [eM_302, va_up_ne _ _ (by decide)]; exact fr_259
  have fr_314 : M_299 11 = none := by rw [eM_302, va_up_ne _ _ (by decide)]; exact fr_260
  have fr_315 : M_299 12 = none := by rw [eM_302, va_up_ne _ _ (by decide)]; exact fr_261
  have fr_316 : M_299 13 = none := by rw [eM_302, va_up_ne _ _ (by decide)]; exact fr_262
  have fr_317 : M_299 14 = none := by rw [eM_302, va_up_ne _ _ (by decide)]; exact fr_263
  have fr_318 : M_299 15 = none := by rw [eM_302, va_up_ne _ _ (by decide)]; exact fr_264
  have fr_319 : M_299 16 = none := by rw [eM_302, va_up_ne _ _ (by decide)]; exact fr_265
  have fr_320 : M_299 17 = none := by rw [eM_302, va_up_ne _ _ (by decide)]; exact fr_266
  have fr_321 : M_299 19 = none := by rw [eM_302, va_up_ne _ _ (by decide)]; exact fr_267
  have fr_322 : M_299 20 = none := by rw [eM_302, va_up_ne _ _ (by decide)]; exact fr_268
  have fr_323 : M_299 21 = none := by rw [eM_302, va_up_ne _ _ (by decide)]; exact fr_269
  have fr_324 : M_299 22 = none := by rw [eM_302, va_up_ne _ _ (by decide)]; exact fr_270
  have fr_325 : M_299 23 = none := by rw [eM_302, va_up_ne _ _ (by decide)]; exact fr_271
  have fr_326 : M_299 24 = none := by rw [eM_302, va_up_ne _ _ (by decide)]; exact fr_272
  have fr_327 : M_299 25 = none := by rw [eM_302, va_up_ne _ _ (by decide)]; exact fr_273
  have fr_328 : M_299 26 = none := by rw [eM_302, va_up_ne _ _ (by decide)]; exact fr_274
  have fr_329 : M_299 27 = none := by rw [eM_302, va_up_ne _ _ (by decide)]; exact fr_275
  have fr_330 : M_299 28 = none := by rw [eM_302, va_up_ne _ _ (by decide)]; exact fr_276
  have fr_331 : M_299 44 = none := by rw [eM_302, va_up_ne _ _ (by decide)]; exact fr_277
  have fr_332 : M_299 45 = none := by rw [eM_302, va_up_ne _ _ (by decide)]; exact fr_278
  have fr_333 : M_299 46 = none := by rw [eM_302, va_up_ne _ _ (by decide)]; exact fr_279
  have fr_334 : M_299 47 = none := by rw [eM_302, va_up_ne _ _ (by decide)]; exact fr_280
  have fr_335 : M_299 48 = none := by rw [eM_302, va_up_ne _ _ (by decide)]; exact fr_281
  have fr_336 : M_299 49 = none := by rw [eM_302, va_up_ne _ _ (by decide)]; exact fr_282
  have fr_337 : M_299 50 = none := by rw [eM_302, va_up_ne _ _ (by decide)]; exact fr_283
  have fr_338 : M_299 30 = none := by rw [eM_302, va_up_ne _ _ (by decide)]; exact fr_284
  have fr_339 : M_299 31 = none := by rw [eM_302, va_up_ne _ _ (by decide)]; exact fr_285
  have fr_340 : M_299 32 = none := by rw [eM_302, va_up_ne _ _ (by decide)]; exact fr_286
  have fr_341 : M_299 33 = none := by rw [eM_302, va_up_ne _ _ (by decide)]; exact fr_287
  have fr_342 : M_299 34 = none := by rw [eM_302, va_up_ne _ _ (by decide)]; exact fr_288
  have fr_343 : M_299 35 = none := by rw [eM_302, va_up_ne _ _ (by decide)]; exact fr_289
  have fr_344 : M_299 36 = none := by rw [eM_302, va_up_ne _ _ (by decide)]; exact fr_290
  have fr_345 : M_299 37 = none := by rw [eM_302, va_up_ne _ _ (by decide)]; exact fr_291
  have fr_346 : M_299 38 = none := by rw [eM_302, va_up_ne _ _ (by decide)]; exact fr_292
  have fr_347 : M_299 39 = none := by rw [eM_302, va_up_ne _ _ (by decide)]; exact fr_293
  have fr_348 : M_299 40 = none := by rw [eM_302, va_up_ne _ _ (by decide)]; exact fr_294
  have fr_349 : M_299 41 = none := by rw [eM_302, va_up_ne _ _ (by decide)]; exact fr_295
  have fr_350 : M_299 42 = none := by rw [eM_302, va_up_ne _ _ (by decide)]; exact fr_296
  have fr_351 : M_299 43 = none := by rw [eM_302, va_up_ne _ _ (by decide)]; exact fr_297
  have hF_352 : ∀ j : Nat, j ≠ 1 → j ≠ 2 → j ≠ 0 → j ≠ 3 → j ≠ 4 → j ≠ 5 → j ≠ 6 → j ≠ 7 → M_299 j = M j := fun j q0 q1 q2 q3 q4 q5 q6 q7 => by rw [eM_302, va_up_ne _ _ q2]; exact hF_298 j q0 q1 q2 q3 q4 q5 q6 q7
  clear hm_254 hm_255 hm_256 hm_247 hm_248 hm_249 hm_250 hm_251 fr_257 fr_258 fr_259 fr_260 fr_261 fr_262 fr_263 fr_264 fr_265 fr_266 fr_267 fr_268 fr_269 fr_270 fr_271 fr_272 fr_273 fr_274 fr_275 fr_276 fr_277 fr_278 fr_279 fr_280 fr_281 fr_282 fr_283 fr_284 fr_285 fr_286 fr_287 fr_288 fr_289 fr_290 fr_291 fr_292 fr_293 fr_294 fr_295 fr_296 fr_297 hF_298
  refine lv_aload_n hx hb dX9_init_26 rfl (lv_at hl 0 rfl) ?_
  refine n_eqv (show Value.ref (ad 0) = .ref (ad_236 0) from by rw [hAd_252 0 (by decide) (by decide) (by decide) (by decide), hAd_180 0 (by decide), hAd_70 0 (by decide), hAd_7 0 (by decide)]) ?_
  refine h_new (C := RX5) (T := TX5) (N := 4) (ci := 6) (fs := [.null, .null, .null, .int (nI 0)]) hx hb hts i_RX5 tyX5 tyX5_ok hown nw_c23 nw_i23 nw_n23 hI rfl (fun j hj => match j, hj with | 0, _ => rfl | 1, _ => rfl | 2, _ => rfl | 3, _ => rfl | n + 4, h => absurd h (by omega)) (Nat.le_of_ble_eq_true rfl) (Nat.le_of_ble_eq_true rfl) dX9_init_27 8 fr_311 (fun ad_353 M_354 H_355 hA_356 eM_357 hI => ?_)
  have hAd_359 : ∀ j : Nat, j ≠ 8 → ad_353 j = ad_236 j := fun j hj => by obtain ⟨q, e⟩ := hA_356; rw [e]; exact va_up_ne _ _ hj
  have hm_360 : M_354 8 = some (.inr (6, [.null, .null, .null, .int (nI 0)])) := by rw [eM_357]; exact va_up_self _ _ _
  have hm_361 : M_354 0 = some (.inr (10, [.ref (ad_353 1), .ref (ad_353 3), .null, .null, .null, .null, .null, .null, .null, .int (nI 0)])) := by rw [eM_357, va_up_ne _ _ (by decide), hm_303]; rw [hAd_359 1 (by decide), hAd_359 3 (by decide)]
  have hm_362 : M_354 1 = some (cTape ad_353 0) := by rw [eM_357, va_up_ne _ _ (by decide), hm_304]; simp only [cTape, hAd_359 2 (by decide)]
  have hm_363 : M_354 2 = some (aI G 400 (nF (fun _ => 0))) := by rw [eM_357, va_up_ne _ _ (by decide), hm_305]
  have hm_364 : M_354 3 = some (cLaws ad_353 ) := by rw [eM_357, va_up_ne _ _ (by decide), hm_306]; simp only [cLaws, hAd_359 4 (by decide), hAd_359 5 (by decide), hAd_359 6 (by decide), hAd_359 7 (by decide)]
  have hm_365 : M_354 4 = some (aI G 36 (nF (fun _ => 0))) := by rw [eM_357, va_up_ne _ _ (by decide), hm_307]
  have hm_366 : M_354 5 = some (aI G 36 (nF mo_245)) := by rw [eM_357, va_up_ne _ _ (by decide), hm_308]
  have hm_367 : M_354 6 = some (aI G 36 (nF (fun _ => 0))) := by rw [eM_357, va_up_ne _ _ (by decide), hm_309]
  have hm_368 : M_354 7 = some (aZ G 6 (bF ho_246)) := by rw [eM_357, va_up_ne _ _ (by decide), hm_310]
  have fr_369 : M_354 9 = none := by rw [eM_357, va_up_ne _ _ (by decide)]; exact fr_312
  have fr_370 : M_354 10 = none := by rw [eM_357, va_up_ne _ _ (by decide)]; exact fr_313
  have fr_371 : M_354 11 = none := by rw [eM_357, va_up_ne _ _ (by decide)]; exact fr_314
  have fr_372 : M_354 12 = none := by rw [eM_357, va_up_ne _ _ (by decide)]; exact fr_315
  have fr_373 : M_354 13 = none := by rw [eM_357, va_up_ne _ _ (by decide)]; exact fr_316
  have fr_374 : M_354 14 = none := by rw [eM_357, va_up_ne _ _ (by decide)]; exact fr_317
  have fr_375 : M_354 15 = none := by rw [eM_357, va_up_ne _ _ (by decide)]; exact fr_318
  have fr_376 : M_354 16 = none := by rw [eM_357, va_up_ne _ _ (by decide)]; exact fr_319
  have fr_377 : M_354 17 = none := by rw [eM_357, va_up_ne _ _ (by decide)]; exact fr_320
  have fr_378 : M_354 19 = none := by rw [eM_357, va_up_ne _ _ (by decide)]; exact fr_321
  have fr_379 : M_354 20 = none := by rw [eM_357, va_up_ne _ _ (by decide)]; exact fr_322
  have fr_380 : M_354 21 = none := by rw [eM_357, va_up_ne _ _ (by decide)]; exact fr_323
  have fr_381 : M_354 22 = none := by rw [eM_357, va_up_ne _ _ (by decide)]; exact fr_324
  have fr_382 : M_354 23 = none := by rw [eM_357, va_up_ne _ _ (by decide)]; exact fr_325
  have fr_383 : M_354 24 = none := by rw [eM_357, va_up_ne _ _ (by decide)]; exact fr_326
  have fr_384 : M_354 25 = none := by rw [eM_357, va_up_ne _ _ (by decide)]; exact fr_327
  have fr_385 : M_354 26 = none := by rw [eM_357, va_up_ne _ _ (by decide)]; exact fr_328
  have fr_386 : M_354 27 = none := by rw [eM_357, va_up_ne _ _ (by decide)]; exact fr_329
  have fr_387 : M_354 28 = none := by rw [eM_357, va_up_ne _ _ (by decide)]; exact fr_330
  have fr_388 : M_354 44 = none := by rw [eM_357, va_up_ne _ _ (by decide)]; exact fr_331
  have fr_389 : M_354 45 = none := by rw [eM_357, va_up_ne _ _ (by decide)]; exact fr_332
  have fr_390 : M_354 46 = none := by rw [eM_357, va_up_ne _ _ (by decide)]; exact fr_333
  have fr_391 : M_354 47 = none := by rw [eM_357, va_up_ne _ _ (by decide)]; exact fr_334
  have fr_392 : M_354 48 = none := by rw [eM_357, va_up_ne _ _ (by decide)]; exact fr_335
  have fr_393 : M_354 49 = none := by rw [eM_357, va_up_ne _ _ (by decide)]; exact fr_336
  have fr_394 : M_354 50 = none := by rw [eM_357, va_up_ne _ _ (by decide)]; exact fr_337
  have fr_395 : M_354 30 = none := by rw [eM_357, va_up_ne _ _ (by decide)]; exact fr_338
  have fr_396 : M_354 31 = none := by rw [eM_357, va_up_ne _ _ (by decide)]; exact fr_339
  have fr_397 : M_354 32 = none := by rw [eM_357, va_up_ne _ _ (by decide)]; exact fr_340
  have fr_398 : M_354 33 = none := by rw [eM_357, va_up_ne _ _ (by decide)]; exact fr_341
  have fr_399 : M_354 34 = none := by rw [eM_357, va_up_ne _ _ (by decide)]; exact fr_342
  have fr_400 : M_354 35 = none := by rw [eM_357, va_up_ne _ _ (by decide)]; exact fr_343
  have fr_401 : M_354 36 = none := by rw [eM_357, va_up_ne _ _ (by decide)]; exact fr_344
  have fr_402 : M_354 37 = none := by rw [eM_357, va_up_ne _ _ (by decide)]; exact fr_345
  have fr_403 : M_354 38 = none := by rw [eM_357, va_up_ne _ _ (by decide)]; exact fr_346
  have fr_404 : M_354 39 = none := by rw [eM_357, va_up_ne _ _ (by decide)]; exact fr_347
  have fr_405 : M_354 40 = none := by rw [eM_357, va_up_ne _ _ (by decide)]; exact fr_348
  have fr_406 : M_354 41 = none := by rw [eM_357, va_up_ne _ _ (by decide)]; exact fr_349
  have fr_407 : M_354 42 = none := by rw [eM_357, va_up_ne _ _ (by decide)]; exact fr_350
  have fr_408 : M_354 43 = none := by rw [eM_357, va_up_ne _ _ (by decide)]; exact fr_351
  clear hm_303 hm_304 hm_305 hm_306 hm_307 hm_308 hm_309 hm_310 fr_312 fr_313 fr_314 fr_315 fr_316 fr_317 fr_318 fr_319 fr_320 fr_321 fr_322 fr_323 fr_324 fr_325 fr_326 fr_327 fr_328 fr_329 fr_330 fr_331 fr_332 fr_333 fr_334 fr_335 fr_336 fr_337 fr_338 fr_339 fr_340 fr_341 fr_342 fr_343 fr_344 fr_345 fr_346 fr_347 fr_348 fr_349 fr_350 fr_351
  have hF_409 : ∀ j : Nat, j ≠ 1 → j ≠ 2 → j ≠ 0 → j ≠ 3 → j ≠ 4 → j ≠ 5 → j ≠ 6 → j ≠ 7 → j ≠ 8 → M_354 j = M j := fun j q0 q1 q2 q3 q4 q5 q6 q7 q8 => by rw [eM_357, va_up_ne _ _ q8]; exact hF_352 j q0 q1 q2 q3 q4 q5 q6 q7
  clear hF_352
  refine n_eqs (show ([.ref (ad_353 8), .ref (ad_236 0)] : List Value) = [.ref (ad_353 8), .ref (ad_353 0)] from by rw [hAd_359 0 (by decide)]) ?_
  refine lv_dup hx hb dX9_init_30 rfl ?_
  refine k_Av (va_runI (As := []) (rest := [.ref (ad_353 8), .ref (ad_353 0)]) ⟨hx, hb, hml, hown, hts⟩ (c_X5_init l G z ad_353 M_354  hm_360 fr_369 fr_370 fr_371) (cwI 0 hts (gU (lwg_of t_79 rfl)) rfl rfl rfl sp_25 ml_25 in_25 rfl (by decide +kernel) ⟨Nat.le_of_ble_eq_true rfl, Nat.le_of_ble_eq_true rfl⟩) hI.preS rfl rfl hl.1 rfl (lv_room (Nat.le_of_ble_eq_true rfl)) dX9_init_31 ⟨Nat.le_of_ble_eq_true rfl, Nat.le_of_ble_eq_true rfl⟩) hI (fun ad_415 M_412 H_413 locs_414 hp_411 hI => ?_)
  obtain ⟨hg_423, lst_424, hm_416, hm_417, hm_418, hm_419, hF_420, hAd_421, hP_422⟩ := hp_411
  have hm_425 : M_412 8 = some (cOnes ad_415 0) := hm_416
  have hm_426 : M_412 9 = some (aI G 40 (nF hg_423)) := hm_417
  have hm_427 : M_412 10 = some (aI G 40 (nF lst_424)) := hm_418
  have hm_428 : M_412 11 = some (aI G 40 (nF (fun _ => 0))) := hm_419
  have hAd_429 : ∀ j : Nat, j ≠ 9 → j ≠ 10 → j ≠ 11 → ad_415 j = ad_353 j := hAd_421
  have hF_430 : ∀ j : Nat, j ≠ 8 → j ≠ 9 → j ≠ 10 → j ≠ 11 → M_412 j = M_354 j := hF_420
  have hm_431 : M_412 0 = some (.inr (10, [.ref (ad_415 1), .ref (ad_415 3), .null, .null, .null, .null, .null, .null, .null, .int (nI 0)])) := by rw [hF_430 0 (by decide) (by decide) (by decide) (by decide), hm_361]; rw [hAd_429 1 (by decide) (by decide) (by decide), hAd_429 3 (by decide) (by decide) (by decide)]
  have hm_432 : M_412 1 = some (cTape ad_415 0) := by rw [hF_430 1 (by decide) (by decide) (by decide) (by decide), hm_362]; simp only [cTape, hAd_429 2 (by decide) (by decide) (by decide)]
  have hm_433 : M_412 2 = some (aI G 400 (nF (fun _ => 0))) := by rw [hF_430 2 (by decide) (by decide) (by decide) (by decide), hm_363]
  have hm_434 : M_412 3 = some (cLaws ad_415 ) := by rw [hF_430 3 (by decide) (by decide) (by decide) (by decide), hm_364]; simp only [cLaws, hAd_429 4 (by decide) (by decide) (by decide), hAd_429 5 (by decide) (by decide) (by decide), hAd_429 6 (by decide) (by decide) (by decide), hAd_429 7 (by decide) (by decide) (by decide)]
  have hm_435 : M_412 4 = some (aI G 36 (nF (fun _ => 0))) := by rw [hF_430 4 (by decide) (by decide) (by decide) (by decide), hm_365]
  have hm_436 : M_412 5 = some (aI G 36 (nF mo_245)) := by rw [hF_430 5 (by decide) (by decide) (by decide) (by decide), hm_366]
  have hm_437 : M_412 6 = some (aI G 36 (nF (fun _ => 0))) := by rw [hF_430 6 (by decide) (by decide) (by decide) (by decide), hm_367]
  have hm_438 : M_412 7 = some (aZ G 6 (bF ho_246)) := by rw [hF_430 7 (by decide) (by decide) (by decide) (by decide), hm_368]
  have fr_439 : M_412 12 = none := by rw [hF_430 12 (by decide) (by decide) (by decide) (by decide)]; exact fr_372
  have fr_440 : M_412 13 = none := by rw [hF_430 13 (by decide) (by decide) (by decide) (by decide)]; exact fr_373
  have fr_441 : M_412 14 = none := by rw [hF_430 14 (by decide) (by decide) (by decide) (by decide)]; exact fr_374
  have fr_442 : M_412 15 = none := by rw [hF_430 15 (by decide) (by decide) (by decide) (by decide)]; exact fr_375
  have fr_443 : M_412 16 = none := by rw [hF_430 16 (by decide) (by decide) (by decide) (by decide)]; exact fr_376
  have fr_444 : M_412 17 = none := by rw [hF_430 17 (by decide) (by decide) (by decide) (by decide)]; exact fr_377
  have fr_445 : M_412 19 = none := by rw [hF_430 19 (by decide) (by decide) (by decide) (by decide)]; exact fr_378
  have fr_446 : M_412 20 = none := by rw [hF_430 20 (by decide) (by decide) (by decide) (by decide)]; exact fr_379
  have fr_447 : M_412 21 = none := by rw [hF_430 21 (by decide) (by decide) (by decide) (by decide)]; exact fr_380
  have fr_448 : M_412 22 = none := by rw [hF_430 22 (by decide) (by decide) (by decide) (by decide)]; exact fr_381
  have fr_449 : M_412 23 = none := by rw [hF_430 23 (by decide) (by decide) (by decide) (by decide)]; exact fr_382
  have fr_450 : M_412 24 = none := by rw [hF_430 24 (by decide) (by decide) (by decide) (by decide)]; exact fr_383
  have fr_451 : M_412 25 = none := by rw [hF_430 25 (by decide) (by decide) (by decide) (by decide)]; exact fr_384
  have fr_452 : M_412 26 = none := by rw [hF_430 26 (by decide) (by decide) (by decide) (by decide)]; exact fr_385
  have fr_453 : M_412 27 = none := by rw [hF_430 27 (by decide) (by decide) (by decide) (by decide)]; exact fr_386
  have fr_454 : M_412 28 = none := by rw [hF_430 28 (by decide) (by decide) (by decide) (by decide)]; exact fr_387
  have fr_455 : M_412 44 = none := by rw [hF_430 44 (by decide) (by decide) (by decide) (by decide)]; exact fr_388
  have fr_456 : M_412 45 = none := by rw [hF_430 45 (by decide) (by decide) (by decide) (by decide)]; exact fr_389
  have fr_457 : M_412 46 = none := by rw [hF_430 46 (by decide) (by decide) (by decide) (by decide)]; exact fr_390
  have fr_458 : M_412 47 = none := by rw [hF_430 47 (by decide) (by decide) (by decide) (by decide)]; exact fr_391
  have fr_459 : M_412 48 = none := by rw [hF_430 48 (by decide) (by decide) (by decide) (by decide)]; exact fr_392
  have fr_460 : M_412 49 = none := by rw [hF_430 49 (by decide) (by decide) (by decide) (by decide)]; exact fr_393
  have fr_461 : M_412 50 = none := by rw [hF_430 50 (by decide) (by decide) (by decide) (by decide)]; exact fr_394
  have fr_462 : M_412 30 = none := by rw [hF_430 30 (by decide) (by decide) (by decide) (by decide)]; exact fr_395
  have fr_463 : M_412 31 = none := by rw [hF_430 31 (by decide) (by decide) (by decide) (by decide)]; exact fr_396
  have fr_464 : M_412 32 = none := by rw [hF_430 32 (by decide) (by decide) (by decide) (by decide)]; exact fr_397
  have fr_465 : M_412 33 = none := by rw [hF_430 33 (by decide) (by decide) (by decide) (by decide)]; exact fr_398
  have fr_466 : M_412 34 = none := by rw [hF_430 34 (by decide) (by decide) (by decide) (by decide)]; exact fr_399
  have fr_467 : M_412 35 = none := by rw [hF_430 35 (by decide) (by decide) (by decide) (by decide)]; exact fr_400
  have fr_468 : M_412 36 = none := by rw [hF_430 36 (by decide) (by decide) (by decide) (by decide)]; exact fr_401
  have fr_469 : M_412 37 = none := by rw [hF_430 37 (by decide) (by decide) (by decide) (by decide)]; exact fr_402
  have fr_470 : M_412 38 = none := by rw [hF_430 38 (by decide) (by decide) (by decide) (by decide)]; exact fr_403
  have fr_471 : M_412 39 = none := by rw [hF_430 39 (by decide) (by decide) (by decide) (by decide)]; exact fr_404
  have fr_472 : M_412 40 = none := by rw [hF_430 40 (by decide) (by decide) (by decide) (by decide)]; exact fr_405
  have fr_473 : M_412 41 = none := by rw [hF_430 41 (by decide) (by decide) (by decide) (by decide)]; exact fr_406
  have fr_474 : M_412 42 = none := by rw [hF_430 42 (by decide) (by decide) (by decide) (by decide)]; exact fr_407
  have fr_475 : M_412 43 = none := by rw [hF_430 43 (by decide) (by decide) (by decide) (by decide)]; exact fr_408
  clear hm_361 hm_362 hm_363 hm_364 hm_365 hm_366 hm_367 hm_368 fr_372 fr_373 fr_374 fr_375 fr_376 fr_377 fr_378 fr_379 fr_380 fr_381 fr_382 fr_383 fr_384 fr_385 fr_386 fr_387 fr_388 fr_389 fr_390 fr_391 fr_392 fr_393 fr_394 fr_395 fr_396 fr_397 fr_398 fr_399 fr_400 fr_401 fr_402 fr_403 fr_404 fr_405 fr_406 fr_407 fr_408
  have hF_476 : ∀ j : Nat, j ≠ 1 → j ≠ 2 → j ≠ 0 → j ≠ 3 → j ≠ 4 → j ≠ 5 → j ≠ 6 → j ≠ 7 → j ≠ 8 → j ≠ 9 → j ≠ 10 → j ≠ 11 → M_412 j = M j := fun j q0 q1 q2 q3 q4 q5 q6 q7 q8 q9 q10 q11 => (hF_430 j q8 q9 q10 q11).trans (hF_409 j q0 q1 q2 q3 q4 q5 q6 q7 q8)
  clear hF_409 hF_420
  refine n_eqs (show ([.ref (ad_353 8), .ref (ad_353 0)] : List Value) = [.ref (ad_415 8), .ref (ad_415 0)] from by rw [hAd_429 8 (by decide) (by decide) (by decide), hAd_429 0 (by decide) (by decide) (by decide)]) ?_
  refine h_putF (C := RX9) (T := TX9) (N := 10) hx hb hts i_RX9 tyX9 tyX9_ok nmX9 hown hI hm_431 rfl 2 (by decide) f_26 rfl rfl hini rfl rfl rfl (Nat.le_of_ble_eq_true rfl) dX9_init_34 (fun M_477 H_478 locs_479 eM_480 hI => ?_)
  have hm_481 : M_477 0 = some (.inr (10, [.ref (ad_415 1), .ref (ad_415 3), .ref (ad_415 8), .null, .null, .null, .null, .null, .null, .int (nI 0)])) := by rw [eM_480]; exact va_up_self _ _ _
  have hm_482 : M_477 1 = some (cTape ad_415 0) := by rw [eM_480, va_up_ne _ _ (by decide)]; exact hm_432
  have hm_483 : M_477 2 = some (aI G 400 (nF (fun _ => 0))) := by rw [eM_480, va_up_ne _ _ (by decide)]; exact hm_433
  have hm_484 : M_477 3 = some (cLaws ad_415 ) := by rw [eM_480, va_up_ne _ _ (by decide)]; exact hm_434
  have hm_485 : M_477 4 = some (aI G 36 (nF (fun _ => 0))) := by rw [eM_480, va_up_ne _ _ (by decide)]; exact hm_435
  have hm_486 : M_477 5 = some (aI G 36 (nF mo_245)) := by rw [eM_480, va_up_ne _ _ (by decide)]; exact hm_436
  have hm_487 : M_477 6 = some (aI G 36 (nF (fun _ => 0))) := by rw [eM_480, va_up_ne _ _ (by decide)]; exact hm_437
  have hm_488 : M_477 7 = some (aZ G 6 (bF ho_246)) := by rw [eM_480, va_up_ne _ _ (by decide)]; exact hm_438
  have hm_489 : M_477 8 = some (cOnes ad_415 0) := by rw [eM_480, va_up_ne _ _ (by decide)]; exact hm_425
  have hm_490 : M_477 9 = some (aI G 40 (nF hg_423)) := by rw [eM_480, va_up_ne _ _ (by decide)]; exact hm_426
  have hm_491 : M_477 10 = some (aI G 40 (nF lst_424)) := by rw [eM_480, va_up_ne _ _ (by decide)]; exact hm_427
  have hm_492 : M_477 11 = some (aI G 40 (nF (fun _ => 0))) := by rw [eM_480, va_up_ne _ _ (by decide)]; exact hm_428
  have fr_493 : M_477 12 = none := by rw [eM_480, va_up_ne _ _ (by decide)]; exact fr_439
  have fr_494 : M_477 13 = none := by rw [eM_480, va_up_ne _ _ (by decide)]; exact fr_440
  have fr_495 : M_477 14 = none := by rw [eM_480, va_up_ne _ _ (by decide)]; exact fr_441
  have fr_496 : M_477 15 = none := by rw [eM_480, va_up_ne _ _ (by decide)]; exact fr_442
  have fr_497 : M_477 16 = none := by rw [eM_480, va_up_ne _ _ (by decide)]; exact fr_443
  have fr_498 : M_477 17 = none := by rw [eM_480, va_up_ne _ _ (by decide)]; exact fr_444
  have fr_499 : M_477 19 = none := by rw [eM_480, va_up_ne _ _ (by decide)]; exact fr_445
  have fr_500 : M_477 20 = none := by rw [eM_480, va_up_ne _ _ (by decide)]; exact fr_446
  have fr_501 : M_477 21 = none := by rw [eM_480, va_up_ne _ _ (by decide)]; exact fr_447
  have fr_502 : M_477 22 = none := by rw [eM_480, va_up_ne _ _ (by decide)]; exact fr_448
  have fr_503 : M_477 23 = none := by rw [eM_480, va_up_ne _ _ (by decide)]; exact fr_449
  have fr_504 : M_477 24 = none := by rw [eM_480, va_up_ne _ _ (by decide)]; exact fr_450
  have fr_505 : M_477 25 = none := by rw [eM_480, va_up_ne _ _ (by decide)]; exact fr_451
  have fr_506 : M_477 26 = none := by rw [eM_480, va_up_ne _ _ (by decide)]; exact fr_452
  have fr_507 : M_477 27 = none := by rw [eM_480, va_up_ne _ _ (by decide)]; exact fr_453
  have fr_508 : M_477 28 = none := by rw [eM_480, va_up_ne _ _ (by decide)]; exact fr_454
  have fr_509 : M_477 44 = none := by rw [eM_480, va_up_ne _ _ (by decide)]; exact fr_455
  have fr_510 : M_477 45 = none := by rw [eM_480, va_up_ne _ _ (by decide)]; exact fr_456
  have fr_511 : M_477 46 = none := by rw [eM_480, va_up_ne _ _ (by decide)]; exact fr_457
  have fr_512 : M_477 47 = none := by rw [eM_480, va_up_ne _ _ (by decide)]; exact fr_458
  have fr_513 : M_477 48 = none := by rw [eM_480, va_up_ne _ _ (by decide)]; exact fr_459
  have fr_514 : M_477 49 = none := by rw [eM_480, va_up_ne _ _ (by decide)]; exact fr_460
  have fr_515 : M_477 50 = none := by rw [eM_480, va_up_ne _ _ (by decide)]; exact fr_461
  have fr_516 : M_477 30 = none := by rw [eM_480, va_up_ne _ _ (by decide)]; exact fr_462
  have fr_517 : M_477 31 = none := by rw [eM_480, va_up_ne _ _ (by decide)]; exact fr_463
  have fr_518 : M_477 32 = none := by rw [eM_480, va_up_ne _ _ (by decide)]; exact fr_464
  have fr_519 : M_477 33 = none := by rw [eM_480, va_up_ne _ _ (by decide)]; exact fr_465
  have fr_520 : M_477 34 = none := by rw [eM_480, va_up_ne _ _ (by decide)]; exact fr_466
  have fr_521 : M_477 35 = none := by rw [eM_480, va_up_ne _ _ (by decide)]; exact fr_467
  have fr_522 : M_477 36 = none := by rw [eM_480, va_up_ne _ _ (by decide)]; exact fr_468
  have fr_523 : M_477 37 = none := by rw [eM_480, va_up_ne _ _ (by decide)]; exact fr_469
  have fr_524 : M_477 38 = none := by rw [eM_480, va_up_ne _ _ (by decide)]; exact fr_470
  have fr_525 : M_477 39 = none := by rw [eM_480, va_up_ne _ _ (by decide)]; exact fr_471
  have fr_526 : M_477 40 = none := by rw [eM_480, va_up_ne _ _ (by decide)]; exact fr_472
  have fr_527 : M_477 41 = none := by rw [eM_480, va_up_ne _ _ (by decide)]; exact fr_473
  have fr_528 : M_477 42 = none := by rw [eM_480, va_up_ne _ _ (by decide)]; exact fr_474
  have fr_529 : M_477 43 = none := by rw [eM_480, va_up_ne _ _ (by decide)]; exact fr_475
  have hF_530 : ∀ j : Nat, j ≠ 1 → j ≠ 2 → j ≠ 0 → j ≠ 3 → j ≠ 4 → j ≠ 5 → j ≠ 6 → j ≠ 7 → j ≠ 8 → j ≠ 9 → j ≠ 10 → j ≠ 11 → M_477 j = M j := fun j q0 q1 q2 q3 q4 q5 q6 q7 q8 q9 q10 q11 => by rw [eM_480, va_up_ne _ _ q2]; exact hF_476 j q0 q1 q2 q3 q4 q5 q6 q7 q8 q9 q10 q11
  clear hm_431 hm_432 hm_433 hm_434 hm_435 hm_436 hm_437 hm_438 hm_425 hm_426 hm_427 hm_428 fr_439 fr_440 fr_441 fr_442 fr_443 fr_444 fr_445 fr_446 fr_447 fr_448 fr_449 fr_450 fr_451 fr_452 fr_453 fr_454 fr_455 fr_456 fr_457 fr_458 fr_459 fr_460 fr_461 fr_462 fr_463 fr_464 fr_465 fr_466 fr_467 fr_468 fr_469 fr_470 fr_471 fr_472 fr_473 fr_474 fr_475 hF_476
  refine lv_aload_n hx hb dX9_init_37 rfl (lv_at hl 0 rfl) ?_
  refine n_eqv (show Value.ref (ad 0) = .ref (ad_415 0) from by rw [hAd_429 0 (by decide) (by decide) (by decide), hAd_359 0 (by decide), hAd_252 0 (by decide) (by decide) (by decide) (by decide), hAd_180 0 (by decide), hAd_70 0 (by decide), hAd_7 0 (by decide)]) ?_
  refine h_new (C := RX0) (T := TX0) (N := 4) (ci := 1) (fs := [.null, .null, .null, .int (nI 0)]) hx hb hts i_RX0 tyX0 tyX0_ok hown nw_c30 nw_i30 nw_n30 hI rfl (fun j hj => match j, hj with | 0, _ => rfl | 1, _ => rfl | 2, _ => rfl | 3, _ => rfl | n + 4, h => absurd h (by omega)) (Nat.le_of_ble_eq_true rfl) (Nat.le_of_ble_eq_true rfl) dX9_init_38 12 fr_493 (fun ad_531 M_532 H_533 hA_534 eM_535 hI => ?_)
  have hAd_537 : ∀ j : Nat, j ≠ 12 → ad_531 j = ad_415 j := fun j hj => by obtain ⟨q, e⟩ := hA_534; rw [e]; exact va_up_ne _ _ hj
  have hm_538 : M_532 12 = some (.inr (1, [.null, .null, .null, .int (nI 0)])) := by rw [eM_535]; exact va_up_self _ _ _
  have hm_539 : M_532 0 = some (.inr (10, [.ref (ad_531 1), .ref (ad_531 3), .ref (ad_531 8), .null, .null, .null, .null, .null, .null, .int (nI 0)])) := by rw [eM_535, va_up_ne _ _ (by decide), hm_481]; rw [hAd_537 1 (by decide), hAd_537 3 (by decide), hAd_537 8 (by decide)]
  have hm_540 : M_532 1 = some (cTape ad_531 0) := by rw [eM_535, va_up_ne _ _ (by decide), hm_482]; simp only [cTape, hAd_537 2 (by decide)]
  have hm_541 : M_532 2 = some (aI G 400 (nF (fun _ => 0))) := by rw [eM_535, va_up_ne _ _ (by decide), hm_483]
  have hm_542 : M_532 3 = some (cLaws ad_531 ) := by rw [eM_535, va_up_ne _ _ (by decide), hm_484]; simp only [cLaws, hAd_537 4 (by decide), hAd_537 5 (by decide), hAd_537 6 (by decide), hAd_537 7 (by decide)]
  have hm_543 : M_532 4 = some (aI G 36 (nF (fun _ => 0))) := by rw [eM_535, va_up_ne _ _ (by decide), hm_485]
  have hm_544 : M_532 5 = some (aI G 36 (nF mo_245)) := by rw [eM_535, va_up_ne _ _ (by decide), hm_486]
  have hm_545 : M_532 6 = some (aI G 36 (nF (fun _ => 0))) := by rw [eM_535, va_up_ne _ _ (by decide), hm_487]
  have hm_546 : M_532 7 = some (aZ G 6 (bF ho_246)) := by rw [eM_535, va_up_ne _ _ (by decide), hm_488]
  have hm_547 : M_532 8 = some (cOnes ad_531 0) := by rw [eM_535, va_up_ne _ _ (by decide), hm_489]; simp only [cOnes, hAd_537 9 (by decide), hAd_537 10 (by decide), hAd_537 11 (by decide)]
  have hm_548 : M_532 9 = some (aI G 40 (nF hg_423)) := by rw [eM_535, va_up_ne _ _ (by decide), hm_490]
  have hm_549 : M_532 10 = some (aI G 40 (nF lst_424)) := by rw [eM_535, va_up_ne _ _ (by decide), hm_491]
  have hm_550 : M_532 11 = some (aI G 40 (nF (fun _ => 0))) := by rw [eM_535, va_up_ne _ _ (by decide), hm_492]
  have fr_551 : M_532 13 = none := by rw [eM_535, va_up_ne _ _ (by decide)]; exact fr_494
  have fr_552 : M_532 14 = none := by rw [eM_535, va_up_ne _ _ (by decide)]; exact fr_495
  have fr_553 : M_532 15 = none := by rw [eM_535, va_up_ne _ _ (by decide)]; exact fr_496
  have fr_554 : M_532 16 = none := by rw [eM_535, va_up_ne _ _ (by decide)]; exact fr_497
  have fr_555 : M_532 17 = none := by rw [eM_535, va_up_ne _ _ (by decide)]; exact fr_498
  have fr_556 : M_532 19 = none := by rw [eM_535, va_up_ne _ _ (by decide)]; exact fr_499
  have fr_557 : M_532 20 = none := by rw [eM_535, va_up_ne _ _ (by decide)]; exact fr_500
  have fr_558 : M_532 21 = none := by rw [eM_535, va_up_ne _ _ (by decide)]; exact fr_501
  have fr_559 : M_532 22 = none := by rw [eM_535, va_up_ne _ _ (by decide)]; exact fr_502
  have fr_560 : M_532 23 = none := by rw [eM_535, va_up_ne _ _ (by decide)]; exact fr_503
  have fr_561 : M_532 24 = none := by rw [eM_535, va_up_ne _ _ (by decide)]; exact fr_504
  have fr_562 : M_532 25 = none := by rw [eM_535, va_up_ne _ _ (by decide)]; exact fr_505
  have fr_563 : M_532 26 = none := by rw [eM_535, va_up_ne _ _ (by decide)]; exact fr_506
  have fr_564 : M_532 27 = none := by rw [eM_535, va_up_ne _ _ (by decide)]; exact fr_507
  have fr_565 : M_532 28 = none := by rw [eM_535, va_up_ne _ _ (by decide)]; exact fr_508
  have fr_566 : M_532 44 = none := by rw [eM_535, va_up_ne _ _ (by decide)]; exact fr_509
  have fr_567 : M_532 45 = none := by rw [eM_535, va_up_ne _ _ (by decide)]; exact fr_510
  have fr_568 : M_532 46 = none := by rw [eM_535, va_up_ne _ _ (by decide)]; exact fr_511
  have fr_569 : M_532 47 = none := by rw [eM_535, va_up_ne _ _ (by decide)]; exact fr_512
  have fr_570 : M_532 48 = none := by rw [eM_535, va_up_ne _ _ (by decide)]; exact fr_513
  have fr_571 : M_532 49 = none := by rw [eM_535, va_up_ne _ _ (by decide)]; exact fr_514
  have fr_572 : M_532 50 = none := by rw [eM_535, va_up_ne _ _ (by decide)]; exact fr_515
  have fr_573 : M_532 30 = none := by rw [eM_535, va_up_ne _ _ (by decide)]; exact fr_516
  have fr_574 : M_532 31 = none := by rw [eM_535, va_up_ne _ _ (by decide)]; exact fr_517
  have fr_575 : M_532 32 = none := by rw [eM_535, va_up_ne _ _ (by decide)]; exact fr_518
  have fr_576 : M_532 33 = none := by rw [eM_535, va_up_ne _ _ (by decide)]; exact fr_519
  have fr_577 : M_532 34 = none := by rw [eM_535, va_up_ne _ _ (by decide)]; exact fr_520
  have fr_578 : M_532 35 = none := by rw [eM_535, va_up_ne _ _ (by decide)]; exact fr_521
  have fr_579 : M_532 36 = none := by rw [eM_535, va_up_ne _ _ (by decide)]; exact fr_522
  have fr_580 : M_532 37 = none := by rw [eM_535, va_up_ne _ _ (by decide)]; exact fr_523
  have fr_581 : M_532 38 = none := by rw [eM_535, va_up_ne _ _ (by decide)]; exact fr_524
  have fr_582 : M_532 39 = none := by rw [eM_535, va_up_ne _ _ (by decide)]; exact fr_525
  have fr_583 : M_532 40 = none := by rw [eM_535, va_up_ne _ _ (by decide)]; exact fr_526
  have fr_584 : M_532 41 = none := by rw [eM_535, va_up_ne _ _ (by decide)]; exact fr_527
  have fr_585 : M_532 42 = none := by rw [eM_535, va_up_ne _ _ (by decide)]; exact fr_528
  have fr_586 : M_532 43 = none := by rw [eM_535, va_up_ne _ _ (by decide)]; exact fr_529
  clear hm_481 hm_482 hm_483 hm_484 hm_485 hm_486 hm_487 hm_488 hm_489 hm_490 hm_491 hm_492 fr_494 fr_495 fr_496 fr_497 fr_498 fr_499 fr_500 fr_501 fr_502 fr_503 fr_504 fr_505 fr_506 fr_507 fr_508 fr_509 fr_510 fr_511 fr_512 fr_513 fr_514 fr_515 fr_516 fr_517 fr_518 fr_519 fr_520 fr_521 fr_522 fr_523 fr_524 fr_525 fr_526 fr_527 fr_528 fr_529
  have hF_587 : ∀ j : Nat, j ≠ 1 → j ≠ 2 → j ≠ 0 → j ≠ 3 → j ≠ 4 → j ≠ 5 → j ≠ 6 → j ≠ 7 → j ≠ 8 → j ≠ 9 → j ≠ 10 → j ≠ 11 → j ≠ 12 → M_532 j = M j := fun j q0 q1 q2 q3 q4 q5 q6 q7 q8 q9 q10 q11 q12 => by rw [eM_535, va_up_ne _ _ q12]; exact hF_530 j q0 q1 q2 q3 q4 q5 q6 q7 q8 q9 q10 q11
  clear hF_530
  refine n_eqs (show ([.ref (ad_531 12), .ref (ad_415 0)] : List Value) = [.ref (ad_531 12), .ref (ad_531 0)] from by rw [hAd_537 0 (by decide)]) ?_
  refine lv_dup hx hb dX9_init_41 rfl ?_
  refine k_Av (va_runIN (As := []) (rest := [.ref (ad_531 12), .ref (ad_531 0)]) ⟨hx, hb, hml, hown, hts⟩ (c_X0_init l G z ad_531 M_532 (k := 12) hm_538 fr_551 fr_552 fr_553) ⟨va_cnB 0 hts (gU (lwg_of t_98 rfl)) rfl rfl rfl (nwm_at (i := 1) (q := ("LineStore", 32, ⟨"LineStore$Ends", "<init>", "()V"⟩, "LineStore")) hI rfl) sp_32 (by decide +kernel) ⟨Nat.le_of_ble_eq_true rfl, Nat.le_of_ble_eq_true rfl⟩, rfl, in_32⟩ hI.preS rfl rfl hl.1 rfl (lv_room (Nat.le_of_ble_eq_true rfl)) dX9_init_42 ⟨Nat.le_of_ble_eq_true rfl, Nat.le_of_ble_eq_true rfl⟩) hI (fun ad_593 M_590 H_591 locs_592 hp_589 hI => ?_)
  obtain ⟨hm_594, hm_595, hm_596, hm_597, hF_598, hAd_599⟩ := hp_589
  have hm_600 : M_590 12 = some (cEnds ad_593 12 0) := hm_594
  have hm_601 : M_590 13 = some (aI G 6 (nF (fun _ => 0))) := hm_595
  have hm_602 : M_590 14 = some (aI G 6 (nF (fun _ => 0))) := hm_596
  have hm_603 : M_590 15 = some (aI G 6 (nF (fun _ => 0))) := hm_597
  have hAd_604 : ∀ j : Nat, j ≠ 13 → j ≠ 14 → j ≠ 15 → ad_593 j = ad_531 j := hAd_599
  have hF_605 : ∀ j : Nat, j ≠ 12 → j ≠ 13 → j ≠ 14 → j ≠ 15 → M_590 j = M_532 j := hF_598
  have hm_606 : M_590 0 = some (.inr (10, [.ref (ad_593 1), .ref (ad_593 3), .ref (ad_593 8), .null, .null, .null, .null, .null, .null, .int (nI 0)])) := by rw [hF_605 0 (by decide) (by decide) (by decide) (by decide), hm_539]; rw [hAd_604 1 (by decide) (by decide) (by decide), hAd_604 3 (by decide) (by decide) (by decide), hAd_604 8 (by decide) (by decide) (by decide)]
  have hm_607 : M_590 1 = some (cTape ad_593 0) := by rw [hF_605 1 (by decide) (by decide) (by decide) (by decide), hm_540]; simp only [cTape, hAd_604 2 (by decide) (by decide) (by decide)]
  have hm_608 : M_590 2 = some (aI G 400 (nF (fun _ => 0))) := by rw [hF_605 2 (by decide) (by decide) (by decide) (by decide), hm_541]
  have hm_609 : M_590 3 = some (cLaws ad_593 ) := by rw [hF_605 3 (by decide) (by decide) (by decide) (by decide), hm_542]; simp only [cLaws, hAd_604 4 (by decide) (by decide) (by decide), hAd_604 5 (by decide) (by decide) (by decide), hAd_604 6 (by decide) (by decide) (by decide), hAd_604 7 (by decide) (by decide) (by decide)]
  have hm_610 : M_590 4 = some (aI G 36 (nF (fun _ => 0))) := by rw [hF_605 4 (by decide) (by decide) (by decide) (by decide), hm_543]
  have hm_611 : M_590 5 = some (aI G 36 (nF mo_245)) := by rw [hF_605 5 (by decide) (by decide) (by decide) (by decide), hm_544]
  have hm_612 : M_590 6 = some (aI G 36 (nF (fun _ => 0))) := by rw [hF_605 6 (by decide) (by decide) (by decide) (by decide), hm_545]
  have hm_613 : M_590 7 = some (aZ G 6 (bF ho_246)) := by rw [hF_605 7 (by decide) (by decide) (by decide) (by decide), hm_546]
  have hm_614 : M_590 8 = some (cOnes ad_593 0) := by rw [hF_605 8 (by decide) (by decide) (by decide) (by decide), hm_547]; simp only [cOnes, hAd_604 9 (by decide) (by decide) (by decide), hAd_604 10 (by decide) (by decide) (by decide), hAd_604 11 (by decide) (by decide) (by decide)]
  have hm_615 : M_590 9 = some (aI G 40 (nF hg_423)) := by rw [hF_605 9 (by decide) (by decide) (by decide) (by decide), hm_548]
  have hm_616 : M_590 10 = some (aI G 40 (nF lst_424)) := by rw [hF_605 10 (by decide) (by decide) (by decide) (by decide), hm_549]
  have hm_617 : M_590 11 = some (aI G 40 (nF (fun _ => 0))) := by rw [hF_605 11 (by decide) (by decide) (by decide) (by decide), hm_550]
  have fr_618 : M_590 16 = none := by rw [hF_605 16 (by decide) (by decide) (by decide) (by decide)]; exact fr_554
  have fr_619 : M_590 17 = none := by rw [hF_605 17 (by decide) (by decide) (by decide) (by decide)]; exact fr_555
  have fr_620 : M_590 19 = none := by rw [hF_605 19 (by decide) (by decide) (by decide) (by decide)]; exact fr_556
  have fr_621 : M_590 20 = none := by rw [hF_605 20 (by decide) (by decide) (by decide) (by decide)]; exact fr_557
  have fr_622 : M_590 21 = none := by rw [hF_605 21 (by decide) (by decide) (by decide) (by decide)]; exact fr_558
  have fr_623 : M_590 22 = none := by rw [hF_605 22 (by decide) (by decide) (by decide) (by decide)]; exact fr_559
  have fr_624 : M_590 23 = none := by rw [hF_605 23 (by decide) (by decide) (by decide) (by decide)]; exact fr_560
  have fr_625 : M_590 24 = none := by rw [hF_605 24 (by decide) (by decide) (by decide) (by decide)]; exact fr_561
  have fr_626 : M_590 25 = none := by rw [hF_605 25 (by decide) (by decide) (by decide) (by decide)]; exact fr_562
  have fr_627 : M_590 26 = none := by rw [hF_605 26 (by decide) (by decide) (by decide) (by decide)]; exact fr_563
  have fr_628 : M_590 27 = none := by rw [hF_605 27 (by decide) (by decide) (by decide) (by decide)]; exact fr_564
  have fr_629 : M_590 28 = none := by rw [hF_605 28 (by decide) (by decide) (by decide) (by decide)]; exact fr_565
  have fr_630 : M_590 44 = none := by rw [hF_605 44 (by decide) (by decide) (by decide) (by decide)]; exact fr_566
  have fr_631 : M_590 45 = none := by rw [hF_605 45 (by decide) (by decide) (by decide) (by decide)]; exact fr_567
  have fr_632 : M_590 46 = none := by rw [hF_605 46 (by decide) (by decide) (by decide) (by decide)]; exact fr_568
  have fr_633 : M_590 47 = none := by rw [hF_605 47 (by decide) (by decide) (by decide) (by decide)]; exact fr_569
  have fr_634 : M_590 48 = none := by rw [hF_605 48 (by decide) (by decide) (by decide) (by decide)]; exact fr_570
  have fr_635 : M_590 49 = none := by rw [hF_605 49 (by decide) (by decide) (by decide) (by decide)]; exact fr_571
  have fr_636 : M_590 50 = none := by rw [hF_605 50 (by decide) (by decide) (by decide) (by decide)]; exact fr_572
  have fr_637 : M_590 30 = none := by rw [hF_605 30 (by decide) (by decide) (by decide) (by decide)]; exact fr_573
  have fr_638 : M_590 31 = none := by rw [hF_605 31 (by decide) (by decide) (by decide) (by decide)]; exact fr_574
  have fr_639 : M_590 32 = none := by rw [hF_605 32 (by decide) (by decide) (by decide) (by decide)]; exact fr_575
  have fr_640 : M_590 33 = none := by rw [hF_605 33 (by decide) (by decide) (by decide) (by decide)]; exact fr_576
  have fr_641 : M_590 34 = none := by rw [hF_605 34 (by decide) (by decide) (by decide) (by decide)]; exact fr_577
  have fr_642 : M_590 35 = none := by rw [hF_605 35 (by decide) (by decide) (by decide) (by decide)]; exact fr_578
  have fr_643 : M_590 36 = none := by rw [hF_605 36 (by decide) (by decide) (by decide) (by decide)]; exact fr_579
  have fr_644 : M_590 37 = none := by rw [hF_605 37 (by decide) (by decide) (by decide) (by decide)]; exact fr_580
  have fr_645 : M_590 38 = none := by rw [hF_605 38 (by decide) (by decide) (by decide) (by decide)]; exact fr_581
  have fr_646 : M_590 39 = none := by rw [hF_605 39 (by decide) (by decide) (by decide) (by decide)]; exact fr_582
  have fr_647 : M_590 40 = none := by rw [hF_605 40 (by decide) (by decide) (by decide) (by decide)]; exact fr_583
  have fr_648 : M_590 41 = none := by rw [hF_605 41 (by decide) (by decide) (by decide) (by decide)]; exact fr_584
  have fr_649 : M_590 42 = none := by rw [hF_605 42 (by decide) (by decide) (by decide) (by decide)]; exact fr_585
  have fr_650 : M_590 43 = none := by rw [hF_605 43 (by decide) (by decide) (by decide) (by decide)]; exact fr_586
  clear hm_539 hm_540 hm_541 hm_542 hm_543 hm_544 hm_545 hm_546 hm_547 hm_548 hm_549 hm_550 fr_554 fr_555 fr_556 fr_557 fr_558 fr_559 fr_560 fr_561 fr_562 fr_563 fr_564 fr_565 fr_566 fr_567 fr_568 fr_569 fr_570 fr_571 fr_572 fr_573 fr_574 fr_575 fr_576 fr_577 fr_578 fr_579 fr_580 fr_581 fr_582 fr_583 fr_584 fr_585 fr_586
  have hF_651 : ∀ j : Nat, j ≠ 1 → j ≠ 2 → j ≠ 0 → j ≠ 3 → j ≠ 4 → j ≠ 5 → j ≠ 6 → j ≠ 7 → j ≠ 8 → j ≠ 9 → j ≠ 10 → j ≠ 11 → j ≠ 12 → j ≠ 13 → j ≠ 14 → j ≠ 15 → M_590 j = M j := fun j q0 q1 q2 q3 q4 q5 q6 q7 q8 q9 q10 q11 q12 q13 q14 q15 => (hF_605 j q12 q13 q14 q15).trans (hF_587 j q0 q1 q2 q3 q4 q5 q6 q7 q8 q9 q10 q11 q12)
  clear hF_587 hF_598
  refine n_eqs (show ([.ref (ad_531 12), .ref (ad_531 0)] : List Value) = [.ref (ad_593 12), .ref (ad_593 0)] from by rw [hAd_604 12 (by decide) (by decide) (by decide), hAd_604 0 (by decide) (by decide) (by decide)]) ?_
  refine h_putF (C := RX9) (T := TX9) (N := 10) hx hb hts i_RX9 tyX9 tyX9_ok nmX9 hown hI hm_606 rfl 3 (by decide) f_33 rfl rfl hini rfl rfl rfl (Nat.le_of_ble_eq_true rfl) dX9_init_45 (fun M_652 H_653 locs_654 eM_655 hI => ?_)
  have hm_656 : M_652 0 = some (.inr (10, [.ref (ad_593 1), .ref (ad_593 3), .ref (ad_593 8), .ref (ad_593 12), .null, .null, .null, .null, .null, .int (nI 0)])) := by rw [eM_655]; exact va_up_self _ _ _
  have hm_657 : M_652 1 = some (cTape ad_593 0) := by rw [eM_655, va_up_ne _ _ (by decide)]; exact hm_607
  have hm_658 : M_652 2 = some (aI G 400 (nF (fun _ => 0))) := by rw [eM_655, va_up_ne _ _ (by decide)]; exact hm_608
  have hm_659 : M_652 3 = some (cLaws ad_593 ) := by rw [eM_655, va_up_ne _ _ (by decide)]; exact hm_609
  have hm_660 : M_652 4 = some (aI G 36 (nF (fun _ => 0))) := by rw [eM_655, va_up_ne _ _ (by decide)]; exact hm_610
  have hm_661 : M_652 5 = some (aI G 36 (nF mo_245)) := by rw [eM_655, va_up_ne _ _ (by decide)]; exact hm_611
  have hm_662 : M_652 6 = some (aI G 36 (nF (fun _ => 0))) := by rw [eM_655, va_up_ne _ _ (by decide)]; exact hm_612
  have hm_663 : M_652 7 = some (aZ G 6 (bF ho_246)) := by rw [eM_655, va_up_ne _ _ (by decide)]; exact hm_613
  have hm_664 : M_652 8 = some (cOnes ad_593 0) := by rw [eM_655, va_up_ne _ _ (by decide)]; exact hm_614
  have hm_665 : M_652 9 = some (aI G 40 (nF hg_423)) := by rw [eM_655, va_up_ne _ _ (by decide)]; exact hm_615
  have hm_666 : M_652 10 = some (aI G 40 (nF lst_424)) := by rw [eM_655, va_up_ne _ _ (by decide)]; exact hm_616
  have hm_667 : M_652 11 = some (aI G 40 (nF (fun _ => 0))) := by rw [eM_655, va_up_ne _ _ (by decide)]; exact hm_617
  have hm_668 : M_652 12 = some (cEnds ad_593 12 0) := by rw [eM_655, va_up_ne _ _ (by decide)]; exact hm_600
  have hm_669 : M_652 13 = some (aI G 6 (nF (fun _ => 0))) := by rw [eM_655, va_up_ne _ _ (by decide)]; exact hm_601
  have hm_670 : M_652 14 = some (aI G 6 (nF (fun _ => 0))) := by rw [eM_655, va_up_ne _ _ (by decide)]; exact hm_602
  have hm_671 : M_652 15 = some (aI G 6 (nF (fun _ => 0))) := by rw [eM_655, va_up_ne _ _ (by decide)]; exact hm_603
  have fr_672 : M_652 16 = none := by rw [eM_655, va_up_ne _ _ (by decide)]; exact fr_618
  have fr_673 : M_652 17 = none := by rw [eM_655, va_up_ne _ _ (by decide)]; exact fr_619
  have fr_674 : M_652 19 = none := by rw [eM_655, va_up_ne _ _ (by decide)]; exact fr_620
  have fr_675 : M_652 20 = none := by rw [eM_655, va_up_ne _ _ (by decide)]; exact fr_621
  have fr_676 : M_652 21 = none := by rw [eM_655, va_up_ne _ _ (by decide)]; exact fr_622
  have fr_677 : M_652 22 = none := by rw [eM_655, va_up_ne _ _ (by decide)]; exact fr_623
  have fr_678 : M_652 23 = none := by rw [eM_655, va_up_ne _ _ (by decide)]; exact fr_624
  have fr_679 : M_652 24 = none := by rw [eM_655, va_up_ne _ _ (by decide)]; exact fr_625
  have fr_680 : M_652 25 = none := by rw [eM_655, va_up_ne _ _ (by decide)]; exact fr_626
  have fr_681 : M_652 26 = none := by rw [eM_655, va_up_ne _ _ (by decide)]; exact fr_627
  have fr_682 : M_652 27 = none := by rw [eM_655, va_up_ne _ _ (by decide)]; exact fr_628
  have fr_683 : M_652 28 = none := by rw [eM_655, va_up_ne _ _ (by decide)]; exact fr_629
  have fr_684 : M_652 44 = none := by rw [eM_655, va_up_ne _ _ (by decide)]; exact fr_630
  have fr_685 : M_652 45 = none := by rw [eM_655, va_up_ne _ _ (by decide)]; exact fr_631
  have fr_686 : M_652 46 = none := by rw [eM_655, va_up_ne _ _ (by decide)]; exact fr_632
  have fr_687 : M_652 47 = none := by rw [eM_655, va_up_ne _ _ (by decide)]; exact fr_633
  have fr_688 : M_652 48 = none := by rw [eM_655, va_up_ne _ _ (by decide)]; exact fr_634
  have fr_689 : M_652 49 = none := by rw [eM_655, va_up_ne _ _ (by decide)]; exact fr_635
  have fr_690 : M_652 50 = none := by rw [eM_655, va_up_ne _ _ (by decide)]; exact fr_636
  have fr_691 : M_652 30 = none := by rw [eM_655, va_up_ne _ _ (by decide)]; exact fr_637
  have fr_692 : M_652 31 = none := by rw [eM_655, va_up_ne _ _ (by decide)]; exact fr_638
  have fr_693 : M_652 32 = none := by rw [eM_655, va_up_ne _ _ (by decide)]; exact fr_639
  have fr_694 : M_652 33 = none := by rw [eM_655, va_up_ne _ _ (by decide)]; exact fr_640
  have fr_695 : M_652 34 = none := by rw [eM_655, va_up_ne _ _ (by decide)]; exact fr_641
  have fr_696 : M_652 35 = none := by rw [eM_655, va_up_ne _ _ (by decide)]; exact fr_642
  have fr_697 : M_652 36 = none := by rw [eM_655, va_up_ne _ _ (by decide)]; exact fr_643
  have fr_698 : M_652 37 = none := by rw [eM_655, va_up_ne _ _ (by decide)]; exact fr_644
  have fr_699 : M_652 38 = none := by rw [eM_655, va_up_ne _ _ (by decide)]; exact fr_645
  have fr_700 : M_652 39 = none := by rw [eM_655, va_up_ne _ _ (by decide)]; exact fr_646
  have fr_701 : M_652 40 = none := by rw [eM_655, va_up_ne _ _ (by decide)]; exact fr_647
  have fr_702 : M_652 41 = none := by rw [eM_655, va_up_ne _ _ (by decide)]; exact fr_648
  have fr_703 : M_652 42 = none := by rw [eM_655, va_up_ne _ _ (by decide)]; exact fr_649
  have fr_704 : M_652 43 = none := by rw [eM_655, va_up_ne _ _ (by decide)]; exact fr_650
  have hF_705 : ∀ j : Nat, j ≠ 1 → j ≠ 2 → j ≠ 0 → j ≠ 3 → j ≠ 4 → j ≠ 5 → j ≠ 6 → j ≠ 7 → j ≠ 8 → j ≠ 9 → j ≠ 10 → j ≠ 11 → j ≠ 12 → j ≠ 13 → j ≠ 14 → j ≠ 15 → M_652 j = M j := fun j q0 q1 q2 q3 q4 q5 q6 q7 q8 q9 q10 q11 q12 q13 q14 q15 => by rw [eM_655, va_up_ne _ _ q2]; exact hF_651 j q0 q1 q2 q3 q4 q5 q6 q7 q8 q9 q10 q11 q12 q13 q14 q15
  clear hm_606 hm_607 hm_608 hm_609 hm_610 hm_611 hm_612 hm_613 hm_614 hm_615 hm_616 hm_617 hm_600 hm_601 hm_602 hm_603 fr_618 fr_619 fr_620 fr_621 fr_622 fr_623 fr_624 fr_625 fr_626 fr_627 fr_628 fr_629 fr_630 fr_631 fr_632 fr_633 fr_634 fr_635 fr_636 fr_637 fr_638 fr_639 fr_640 fr_641 fr_642 fr_643 fr_644 fr_645 fr_646 fr_647 fr_648 fr_649 fr_650 hF_651
  refine lv_aload_n hx hb dX9_init_48 rfl (lv_at hl 0 rfl) ?_
  refine n_eqv (show Value.ref (ad 0) = .ref (ad_593 0) from by rw [hAd_604 0 (by decide) (by decide) (by decide), hAd_537 0 (by decide), hAd_429 0 (by decide) (by decide) (by decide), hAd_359 0 (by decide), hAd_252 0 (by decide) (by decide) (by decide) (by decide), hAd_180 0 (by decide), hAd_70 0 (by decide), hAd_7 0 (by decide)]) ?_
  refine h_new (C := RX3) (T := TX3) (N := 4) (ci := 4) (fs := [.null, .null, .null, .null]) hx hb hts i_RX3 tyX3 tyX3_ok hown nw_c37 nw_i37 nw_n37 hI rfl (fun j hj => match j, hj with | 0, _ => rfl | 1, _ => rfl | 2, _ => rfl | 3, _ => rfl | n + 4, h => absurd h (by omega)) (Nat.le_of_ble_eq_true rfl) (Nat.le_of_ble_eq_true rfl) dX9_init_49 16 fr_672 (fun ad_706 M_707 H_708 hA_709 eM_710 hI => ?_)
  have hAd_712 : ∀ j : Nat, j ≠ 16 → ad_706 j = ad_593 j := fun j hj => by obtain ⟨q, e⟩ := hA_709; rw [e]; exact va_up_ne _ _ hj
  have hm_713 : M_707 16 = some (.inr (4, [.null, .null, .null, .null])) := by rw [eM_710]; exact va_up_self _ _ _
  have hm_714 : M_707 0 = some (.inr (10, [.ref (ad_706 1), .ref (ad_706 3), .ref (ad_706 8), .ref (ad_706 12), .null, .null, .null, .null, .null, .int (nI 0)])) := by rw [eM_710, va_up_ne _ _ (by decide), hm_656]; rw [hAd_712 1 (by decide), hAd_712 3 (by decide), hAd_712 8 (by decide), hAd_712 12 (by decide)]
  have hm_715 : M_707 1 = some (cTape ad_706 0) := by rw [eM_710, va_up_ne _ _ (by decide), hm_657]; simp only [cTape, hAd_712 2 (by decide)]
  have hm_716 : M_707 2 = some (aI G 400 (nF (fun _ => 0))) := by rw [eM_710, va_up_ne _ _ (by decide), hm_658]
  have hm_717 : M_707 3 = some (cLaws ad_706 ) := by rw [eM_710, va_up_ne _ _ (by decide), hm_659]; simp only [cLaws, hAd_712 4 (by decide), hAd_712 5 (by decide), hAd_712 6 (by decide), hAd_712 7 (by decide)]
  have hm_718 : M_707 4 = some (aI G 36 (nF (fun _ => 0))) := by rw [eM_710, va_up_ne _ _ (by decide), hm_660]
  have hm_719 : M_707 5 = some (aI G 36 (nF mo_245)) := by rw [eM_710, va_up_ne _ _ (by decide), hm_661]
  have hm_720 : M_707 6 = some (aI G 36 (nF (fun _ => 0))) := by rw [eM_710, va_up_ne _ _ (by decide), hm_662]
  have hm_721 : M_707 7 = some (aZ G 6 (bF ho_246)) := by rw [eM_710, va_up_ne _ _ (by decide), hm_663]
  have hm_722 : M_707 8 = some (cOnes ad_706 0) := by rw [eM_710, va_up_ne _ _ (by decide), hm_664]; simp only [cOnes, hAd_712 9 (by decide), hAd_712 10 (by decide), hAd_712 11 (by decide)]
  have hm_723 : M_707 9 = some (aI G 40 (nF hg_423)) := by rw [eM_710, va_up_ne _ _ (by decide), hm_665]
  have hm_724 : M_707 10 = some (aI G 40 (nF lst_424)) := by rw [eM_710, va_up_ne _ _ (by decide), hm_666]
  have hm_725 : M_707 11 = some (aI G 40 (nF (fun _ => 0))) := by rw [eM_710, va_up_ne _ _ (by decide), hm_667]
  have hm_726 : M_707 12 = some (cEnds ad_706 12 0) := by rw [eM_710, va_up_ne _ _ (by decide), hm_668]; simp only [cEnds, hAd_712 13 (by decide), hAd_712 14 (by decide), hAd_712 15 (by decide)]
  have hm_727 : M_707 13 = some (aI G 6 (nF (fun _ => 0))) := by rw [eM_710, va_up_ne _ _ (by decide), hm_669]
  have hm_728 : M_707 14 = some (aI G 6 (nF (fun _ => 0))) := by rw [eM_710, va_up_ne _ _ (by decide), hm_670]
  have hm_729 : M_707 15 = some (aI G 6 (nF (fun _ => 0))) := by rw [eM_710, va_up_ne _ _ (by decide), hm_671]
  have fr_730 : M_707 17 = none := by rw [eM_710, va_up_ne _ _ (by decide)]; exact fr_673
  have fr_731 : M_707 19 = none := by rw [eM_710, va_up_ne _ _ (by decide)]; exact fr_674
  have fr_732 : M_707 20 = none := by rw [eM_710, va_up_ne _ _ (by decide)]; exact fr_675
  have fr_733 : M_707 21 = none := by rw [eM_710, va_up_ne _ _ (by decide)]; exact fr_676
  have fr_734 : M_707 22 = none := by rw [eM_710, va_up_ne _ _ (by decide)]; exact fr_677
  have fr_735 : M_707 23 = none := by rw [eM_710, va_up_ne _ _ (by decide)]; exact fr_678
  have fr_736 : M_707 24 = none := by rw [eM_710, va_up_ne _ _ (by decide)]; exact fr_679
  have fr_737 : M_707 25 = none := by rw [eM_710, va_up_ne _ _ (by decide)]; exact fr_680
  have fr_738 : M_707 26 = none := by rw [eM_710, va_up_ne _ _ (by decide)]; exact fr_681
  have fr_739 : M_707 27 = none := by rw [eM_710, va_up_ne _ _ (by decide)]; exact fr_682
  have fr_740 : M_707 28 = none := by rw [eM_710, va_up_ne _ _ (by decide)]; exact fr_683
  have fr_741 : M_707 44 = none := by rw [eM_710, va_up_ne _ _ (by decide)]; exact fr_684
  have fr_742 : M_707 45 = none := by rw [eM_710, va_up_ne _ _ (by decide)]; exact fr_685
  have fr_743 : M_707 46 = none := by rw [eM_710, va_up_ne _ _ (by decide)]; exact fr_686
  have fr_744 : M_707 47 = none := by rw [eM_710, va_up_ne _ _ (by decide)]; exact fr_687
  have fr_745 : M_707 48 = none := by rw [eM_710, va_up_ne _ _ (by decide)]; exact fr_688
  have fr_746 : M_707 49 = none := by rw [eM_710, va_up_ne _ _ (by decide)]; exact fr_689
  have fr_747 : M_707 50 = none := by rw [eM_710, va_up_ne _ _ (by decide)]; exact fr_690
  have fr_748 : M_707 30 = none := by rw [eM_710, va_up_ne _ _ (by decide)]; exact fr_691
  have fr_749 : M_707 31 = none := by rw [eM_710, va_up_ne _ _ (by decide)]; exact fr_692
  have fr_750 : M_707 32 = none := by rw [eM_710, va_up_ne _ _ (by decide)]; exact fr_693
  have fr_751 : M_707 33 = none := by rw [eM_710, va_up_ne _ _ (by decide)]; exact fr_694
  have fr_752 : M_707 34 = none := by rw [eM_710, va_up_ne _ _ (by decide)]; exact fr_695
  have fr_753 : M_707 35 = none := by rw [eM_710, va_up_ne _ _ (by decide)]; exact fr_696
  have fr_754 : M_707 36 = none := by rw [eM_710, va_up_ne _ _ (by decide)]; exact fr_697
  have fr_755 : M_707 37 = none := by rw [eM_710, va_up_ne _ _ (by decide)]; exact fr_698
  have fr_756 : M_707 38 = none := by rw [eM_710, va_up_ne _ _ (by decide)]; exact fr_699
  have fr_757 : M_707 39 = none := by rw [eM_710, va_up_ne _ _ (by decide)]; exact fr_700
  have fr_758 : M_707 40 = none := by rw [eM_710, va_up_ne _ _ (by decide)]; exact fr_701
  have fr_759 : M_707 41 = none := by rw [eM_710, va_up_ne _ _ (by decide)]; exact fr_702
  have fr_760 : M_707 42 = none := by rw [eM_710, va_up_ne _ _ (by decide)]; exact fr_703
  have fr_761 : M_707 43 = none := by rw [eM_710, va_up_ne _ _ (by decide)]; exact fr_704
  clear hm_656 hm_657 hm_658 hm_659 hm_660 hm_661 hm_662 hm_663 hm_664 hm_665 hm_666 hm_667 hm_668 hm_669 hm_670 hm_671 fr_673 fr_674 fr_675 fr_676 fr_677 fr_678 fr_679 fr_680 fr_681 fr_682 fr_683 fr_684 fr_685 fr_686 fr_687 fr_688 fr_689 fr_690 fr_691 fr_692 fr_693 fr_694 fr_695 fr_696 fr_697 fr_698 fr_699 fr_700 fr_701 fr_702 fr_703 fr_704
  have hF_762 : ∀ j : Nat, j ≠ 1 → j ≠ 2 → j ≠ 0 → j ≠ 3 → j ≠ 4 → j ≠ 5 → j ≠ 6 → j ≠ 7 → j ≠ 8 → j ≠ 9 → j ≠ 10 → j ≠ 11 → j ≠ 12 → j ≠ 13 → j ≠ 14 → j ≠ 15 → j ≠ 16 → M_707 j = M j := fun j q0 q1 q2 q3 q4 q5 q6 q7 q8 q9 q10 q11 q12 q13 q14 q15 q16 => by rw [eM_710, va_up_ne _ _ q16]; exact hF_705 j q0 q1 q2 q3 q4 q5 q6 q7 q8 q9 q10 q11 q12 q13 q14 q15
  clear hF_705
  refine n_eqs (show ([.ref (ad_706 16), .ref (ad_593 0)] : List Value) = [.ref (ad_706 16), .ref (ad_706 0)] from by rw [hAd_712 0 (by decide)]) ?_
  refine lv_dup hx hb dX9_init_52 rfl ?_
  refine k_Av (va_runIN (As := []) (rest := [.ref (ad_706 16), .ref (ad_706 0)]) ⟨hx, hb, hml, hown, hts⟩ (c_X3_init l G z ad_706 M_707  hm_713 fr_730 fr_731 fr_732 fr_733) ⟨va_cnB 0 hts (gU (lwg_of t_117 rfl)) rfl rfl rfl (nwm_at (i := 2) (q := ("LineStore", 39, ⟨"LineStore$Lines", "<init>", "()V"⟩, "LineStore")) hI rfl) sp_39 (by decide +kernel) ⟨Nat.le_of_ble_eq_true rfl, Nat.le_of_ble_eq_true rfl⟩, rfl, in_39⟩ hI.preS rfl rfl hl.1 rfl (lv_room (Nat.le_of_ble_eq_true rfl)) dX9_init_53 ⟨Nat.le_of_ble_eq_true rfl, Nat.le_of_ble_eq_true rfl⟩) hI (fun ad_768 M_765 H_766 locs_767 hp_764 hI => ?_)
  obtain ⟨hm_769, hm_770, hm_771, hm_772, hm_773, hF_774, hAd_775⟩ := hp_764
  have hm_776 : M_765 16 = some (cLines ad_768 ) := hm_769
  have hm_777 : M_765 17 = some (cList ad_768 (nI 0) G.2.2.2.2 0) := hm_770
  have hm_778 : M_765 19 = some (aZ G 120 (bF (fun _ => false))) := hm_771
  have hm_779 : M_765 20 = some (aI G 120 (nF (fun _ => 0))) := hm_772
  have hm_780 : M_765 21 = some (aI G 120 (nF (fun _ => 0))) := hm_773
  have hAd_781 : ∀ j : Nat, j ≠ 17 → j ≠ 19 → j ≠ 20 → j ≠ 21 → ad_768 j = ad_706 j := hAd_775
  have hF_782 : ∀ j : Nat, j ≠ 16 → j ≠ 17 → j ≠ 19 → j ≠ 20 → j ≠ 21 → M_765 j = M_707 j := hF_774
  have hm_783 : M_765 0 = some (.inr (10, [.ref (ad_768 1), .ref (ad_768 3), .ref (ad_768 8), .ref (ad_768 12), .null, .null, .null, .null, .null, .int (nI 0)])) := by rw [hF_782 0 (by decide) (by decide) (by decide) (by decide) (by decide), hm_714]; rw [hAd_781 1 (by decide) (by decide) (by decide) (by decide), hAd_781 3 (by decide) (by decide) (by decide) (by decide), hAd_781 8 (by decide) (by decide) (by decide) (by decide), hAd_781 12 (by decide) (by decide) (by decide) (by decide)]
  have hm_784 : M_765 1 = some (cTape ad_768 0) := by rw [hF_782 1 (by decide) (by decide) (by decide) (by decide) (by decide), hm_715]; simp only [cTape, hAd_781 2 (by decide) (by decide) (by decide) (by decide)]
  have hm_785 : M_765 2 = some (aI G 400 (nF (fun _ => 0))) := by rw [hF_782 2 (by decide) (by decide) (by decide) (by decide) (by decide), hm_716]
  have hm_786 : M_765 3 = some (cLaws ad_768 ) := by rw [hF_782 3 (by decide) (by decide) (by decide) (by decide) (by decide), hm_717]; simp only [cLaws, hAd_781 4 (by decide) (by decide) (by decide) (by decide), hAd_781 5 (by decide) (by decide) (by decide) (by decide), hAd_781 6 (by decide) (by decide) (by decide) (by decide), hAd_781 7 (by decide) (by decide) (by decide) (by decide)]
  have hm_787 : M_765 4 = some (aI G 36 (nF (fun _ => 0))) := by rw [hF_782 4 (by decide) (by decide) (by decide) (by decide) (by decide), hm_718]
  have hm_788 : M_765 5 = some (aI G 36 (nF mo_245)) := by rw [hF_782 5 (by decide) (by decide) (by decide) (by decide) (by decide), hm_719]
  have hm_789 : M_765 6 = some (aI G 36 (nF (fun _ => 0))) := by rw [hF_782 6 (by decide) (by decide) (by decide) (by decide) (by decide), hm_720]
  have hm_790 : M_765 7 = some (aZ G 6 (bF ho_246)) := by rw [hF_782 7 (by decide) (by decide) (by decide) (by decide) (by decide), hm_721]
  have hm_791 : M_765 8 = some (cOnes ad_768 0) := by rw [hF_782 8 (by decide) (by decide) (by decide) (by decide) (by decide), hm_722]; simp only [cOnes, hAd_781 9 (by decide) (by decide) (by decide) (by decide), hAd_781 10 (by decide) (by decide) (by decide) (by decide), hAd_781 11 (by decide) (by decide) (by decide) (by decide)]
  have hm_792 : M_765 9 = some (aI G 40 (nF hg_423)) := by rw [hF_782 9 (by decide) (by decide) (by decide) (by decide) (by decide), hm_723]
  have hm_793 : M_765 10 = some (aI G 40 (nF lst_424)) := by rw [hF_782 10 (by decide) (by decide) (by decide) (by decide) (by decide), hm_724]
  have hm_794 : M_765 11 = some (aI G 40 (nF (fun _ => 0))) := by rw [hF_782 11 (by decide) (by decide) (by decide) (by decide) (by decide), hm_725]
  have hm_795 : M_765 12 = some (cEnds ad_768 12 0) := by rw [hF_782 12 (by decide) (by decide) (by decide) (by decide) (by decide), hm_726]; simp only [cEnds, hAd_781 13 (by decide) (by decide) (by decide) (by decide), hAd_781 14 (by decide) (by decide) (by decide) (by decide), hAd_781 15 (by decide) (by decide) (by decide) (by decide)]
  have hm_796 : M_765 13 = some (aI G 6 (nF (fun _ => 0))) := by rw [hF_782 13 (by decide) (by decide) (by decide) (by decide) (by decide), hm_727]
  have hm_797 : M_765 14 = some (aI G 6 (nF (fun _ => 0))) := by rw [hF_782 14 (by decide) (by decide) (by decide) (by decide) (by decide), hm_728]
  have hm_798 : M_765 15 = some (aI G 6 (nF (fun _ => 0))) := by rw [hF_782 15 (by decide) (by decide) (by decide) (by decide) (by decide), hm_729]
  have fr_799 : M_765 22 = none := by rw [hF_782 22 (by decide) (by decide) (by decide) (by decide) (by decide)]; exact fr_734
  have fr_800 : M_765 23 = none := by rw [hF_782 23 (by decide) (by decide) (by decide) (by decide) (by decide)]; exact fr_735
  have fr_801 : M_765 24 = none := by rw [hF_782 24 (by decide) (by decide) (by decide) (by decide) (by decide)]; exact fr_736
  have fr_802 : M_765 25 = none := by rw [hF_782 25 (by decide) (by decide) (by decide) (by decide) (by decide)]; exact fr_737
  have fr_803 : M_765 26 = none := by rw [hF_782 26 (by decide) (by decide) (by decide) (by decide) (by decide)]; exact fr_738
  have fr_804 : M_765 27 = none := by rw [hF_782 27 (by decide) (by decide) (by decide) (by decide) (by decide)]; exact fr_739
  have fr_805 : M_765 28 = none := by rw [hF_782 28 (by decide) (by decide) (by decide) (by decide) (by decide)]; exact fr_740
  have fr_806 : M_765 44 = none := by rw [hF_782 44 (by decide) (by decide) (by decide) (by decide) (by decide)]; exact fr_741
  have fr_807 : M_765 45 = none := by rw [hF_782 45 (by decide) (by decide) (by decide) (by decide) (by decide)]; exact fr_742
  have fr_808 : M_765 46 = none := by rw [hF_782 46 (by decide) (by decide) (by decide) (by decide) (by decide)]; exact fr_743
  have fr_809 : M_765 47 = none := by rw [hF_782 47 (by decide) (by decide) (by decide) (by decide) (by decide)]; exact fr_744
  have fr_810 : M_765 48 = none := by rw [hF_782 48 (by decide) (by decide) (by decide) (by decide) (by decide)]; exact fr_745
  have fr_811 : M_765 49 = none := by rw [hF_782 49 (by decide) (by decide) (by decide) (by decide) (by decide)]; exact fr_746
  have fr_812 : M_765 50 = none := by rw [hF_782 50 (by decide) (by decide) (by decide) (by decide) (by decide)]; exact fr_747
  have fr_813 : M_765 30 = none := by rw [hF_782 30 (by decide) (by decide) (by decide) (by decide) (by decide)]; exact fr_748
  have fr_814 : M_765 31 = none := by rw [hF_782 31 (by decide) (by decide) (by decide) (by decide) (by decide)]; exact fr_749
  have fr_815 : M_765 32 = none := by rw [hF_782 32 (by decide) (by decide) (by decide) (by decide) (by decide)]; exact fr_750
  have fr_816 : M_765 33 = none := by rw [hF_782 33 (by decide) (by decide) (by decide) (by decide) (by decide)]; exact fr_751
  have fr_817 : M_765 34 = none := by rw [hF_782 34 (by decide) (by decide) (by decide) (by decide) (by decide)]; exact fr_752
  have fr_818 : M_765 35 = none := by rw [hF_782 35 (by decide) (by decide) (by decide) (by decide) (by decide)]; exact fr_753
  have fr_819 : M_765 36 = none := by rw [hF_782 36 (by decide) (by decide) (by decide) (by decide) (by decide)]; exact fr_754
  have fr_820 : M_765 37 = none := by rw [hF_782 37 (by decide) (by decide) (by decide) (by decide) (by decide)]; exact fr_755
  have fr_821 : M_765 38 = none := by rw [hF_782 38 (by decide) (by decide) (by decide) (by decide) (by decide)]; exact fr_756
  have fr_822 : M_765 39 = none := by rw [hF_782 39 (by decide) (by decide) (by decide) (by decide) (by decide)]; exact fr_757
  have fr_823 : M_765 40 = none := by rw [hF_782 40 (by decide) (by decide) (by decide) (by decide) (by decide)]; exact fr_758
  have fr_824 : M_765 41 = none := by rw [hF_782 41 (by decide) (by decide) (by decide) (by decide) (by decide)]; exact fr_759
  have fr_825 : M_765 42 = none := by rw [hF_782 42 (by decide) (by decide) (by decide) (by decide) (by decide)]; exact fr_760
  have fr_826 : M_765 43 = none := by rw [hF_782 43 (by decide) (by decide) (by decide) (by decide) (by decide)]; exact fr_761
  clear hm_714 hm_715 hm_716 hm_717 hm_718 hm_719 hm_720 hm_721 hm_722 hm_723 hm_724 hm_725 hm_726 hm_727 hm_728 hm_729 fr_734 fr_735 fr_736 fr_737 fr_738 fr_739 fr_740 fr_741 fr_742 fr_743 fr_744 fr_745 fr_746 fr_747 fr_748 fr_749 fr_750 fr_751 fr_752 fr_753 fr_754 fr_755 fr_756 fr_757 fr_758 fr_759 fr_760 fr_761
  have hF_827 : ∀ j : Nat, j ≠ 1 → j ≠ 2 → j ≠ 0 → j ≠ 3 → j ≠ 4 → j ≠ 5 → j ≠ 6 → j ≠ 7 → j ≠ 8 → j ≠ 9 → j ≠ 10 → j ≠ 11 → j ≠ 12 → j ≠ 13 → j ≠ 14 → j ≠ 15 → j ≠ 16 → j ≠ 17 → j ≠ 19 → j ≠ 20 → j ≠ 21 → M_765 j = M j := fun j q0 q1 q2 q3 q4 q5 q6 q7 q8 q9 q10 q11 q12 q13 q14 q15 q16 q17 q18 q19 q20 => (hF_782 j q16 q17 q18 q19 q20).trans (hF_762 j q0 q1 q2 q3 q4 q5 q6 q7 q8 q9 q10 q11 q12 q13 q14 q15 q16)
  clear hF_762 hF_774
  refine n_eqs (show ([.ref (ad_706 16), .ref (ad_706 0)] : List Value) = [.ref (ad_768 16), .ref (ad_768 0)] from by rw [hAd_781 16 (by decide) (by decide) (by decide) (by decide), hAd_781 0 (by decide) (by decide) (by decide) (by decide)]) ?_
  refine h_putF (C := RX9) (T := TX9) (N := 10) hx hb hts i_RX9 tyX9 tyX9_ok nmX9 hown hI hm_783 rfl 4 (by decide) f_40 rfl rfl hini rfl rfl rfl (Nat.le_of_ble_eq_true rfl) dX9_init_56 (fun M_828 H_829 locs_830 eM_831 hI => ?_)
  have hm_832 : M_828 0 = some (.inr (10, [.ref (ad_768 1), .ref (ad_768 3), .ref (ad_768 8), .ref (ad_768 12), .ref (ad_768 16), .null, .null, .null, .null, .int (nI 0)])) := by rw [eM_831]; exact va_up_self _ _ _
  have hm_833 : M_828 1 = some (cTape ad_768 0) := by rw [eM_831, va_up_ne _ _ (by decide)]; exact hm_784
  have hm_834 : M_828 2 = some (aI G 400 (nF (fun _ => 0))) := by rw [eM_831, va_up_ne _ _ (by decide)]; exact hm_785
  have hm_835 : M_828 3 = some (cLaws ad_768 ) := by rw [eM_831, va_up_ne _ _ (by decide)]; exact hm_786
  have hm_836 : M_828 4 = some (aI G 36 (nF (fun _ => 0))) := by rw [eM_831, va_up_ne _ _ (by decide)]; exact hm_787
  have hm_837 : M_828 5 = some (aI G 36 (nF mo_245)) := by rw [eM_831, va_up_ne _ _ (by decide)]; exact hm_788
  have hm_838 : M_828 6 = some (aI G 36 (nF (fun _ => 0))) := by rw [eM_831, va_up_ne _ _ (by decide)]; exact hm_789
  have hm_839 : M_828 7 = some (aZ G 6 (bF ho_246)) := by rw [eM_831, va_up_ne _ _ (by decide)]; exact hm_790
  have hm_840 : M_828 8 = some (cOnes ad_768 0) := by rw [eM_831, va_up_ne _ _ (by decide)]; exact hm_791
  have hm_841 : M_828 9 = some (aI G 40 (nF hg_423)) := by rw [eM_831, va_up_ne _ _ (by decide)]; exact hm_792
  have hm_842 : M_828 10 = some (aI G 40 (nF lst_424)) := by rw [eM_831, va_up_ne _ _ (by decide)]; exact hm_793
  have hm_843 : M_828 11 = some (aI G 40 (nF (fun _ => 0))) := by rw [eM_831, va_up_ne _ _ (by decide)]; exact hm_794
  have hm_844 : M_828 12 = some (cEnds ad_768 12 0) := by rw [eM_831, va_up_ne _ _ (by decide)]; exact hm_795
  have hm_845 : M_828 13 = some (aI G 6 (nF (fun _ => 0))) := by rw [eM_831, va_up_ne _ _ (by decide)]; exact hm_796
  have hm_846 : M_828 14 = some (aI G 6 (nF (fun _ => 0))) := by rw [eM_831, va_up_ne _ _ (by decide)]; exact hm_797
  have hm_847 : M_828 15 = some (aI G 6 (nF (fun _ => 0))) := by rw [eM_831, va_up_ne _ _ (by decide)]; exact hm_798
  have hm_848 : M_828 16 = some (cLines ad_768 ) := by rw [eM_831, va_up_ne _ _ (by decide)]; exact hm_776
  have hm_849 : M_828 17 = some (cList ad_768 (nI 0) G.2.2.2.2 0) := by rw [eM_831, va_up_ne _ _ (by decide)]; exact hm_777
  have hm_850 : M_828 19 = some (aZ G 120 (bF (fun _ => false))) := by rw [eM_831, va_up_ne _ _ (by decide)]; exact hm_778
  have hm_851 : M_828 20 = some (aI G 120 (nF (fun _ => 0))) := by rw [eM_831, va_up_ne _ _ (by decide)]; exact hm_779
  have hm_852 : M_828 21 = some (aI G 120 (nF (fun _ => 0))) := by rw [eM_831, va_up_ne _ _ (by decide)]; exact hm_780
  have fr_853 : M_828 22 = none := by rw [eM_831, va_up_ne _ _ (by decide)]; exact fr_799
  have fr_854 : M_828 23 = none := by rw [eM_831, va_up_ne _ _ (by decide)]; exact fr_800
  have fr_855 : M_828 24 = none := by rw [eM_831, va_up_ne _ _ (by decide)]; exact fr_801
  have fr_856 : M_828 25 = none := by rw [eM_831, va_up_ne _ _ (by decide)]; exact fr_802
  have fr_857 : M_828 26 = none := by rw [eM_831, va_up_ne _ _ (by decide)]; exact fr_803
  have fr_858 : M_828 27 = none := by rw [eM_831, va_up_ne _ _ (by decide)]; exact fr_804
  have fr_859 : M_828 28 = none := by rw [eM_831, va_up_ne _ _ (by decide)]; exact fr_805
  have fr_860 : M_828 44 = none := by rw [eM_831, va_up_ne _ _ (by decide)]; exact fr_806
  have fr_861 : M_828 45 = none := by rw [eM_831, va_up_ne _ _ (by decide)]; exact fr_807
  have fr_862 : M_828 46 = none := by rw [eM_831, va_up_ne _ _ (by decide)]; exact fr_808
  have fr_863 : M_828 47 = none := by rw [eM_831, va_up_ne _ _ (by decide)]; exact fr_809
  have fr_864 : M_828 48 = none := by rw [eM_831, va_up_ne _ _ (by decide)]; exact fr_810
  have fr_865 : M_828 49 = none := by rw [eM_831, va_up_ne _ _ (by decide)]; exact fr_811
  have fr_866 : M_828 50 = none := by rw [eM_831, va_up_ne _ _ (by decide)]; exact fr_812
  have fr_867 : M_828 30 = none := by rw [eM_831, va_up_ne _ _ (by decide)]; exact fr_813
  have fr_868 : M_828 31 = none := by rw [eM_831, va_up_ne _ _ (by decide)]; exact fr_814
  have fr_869 : M_828 32 = none := by rw [eM_831, va_up_ne _ _ (by decide)]; exact fr_815
  have fr_870 : M_828 33 = none := by rw [eM_831, va_up_ne _ _ (by decide)]; exact fr_816
  have fr_871 : M_828 34 = none := by rw [eM_831, va_up_ne _ _ (by decide)]; exact fr_817
  have fr_872 : M_828 35 = none := by rw [eM_831, va_up_ne _ _ (by decide)]; exact fr_818
  have fr_873 : M_828 36 = none := by rw [eM_831, va_up_ne _ _ (by decide)]; exact fr_819
  have fr_874 : M_828 37 = none := by rw [eM_831, va_up_ne _ _ (by decide)]; exact fr_820
  have fr_875 : M_828 38 = none := by rw [eM_831, va_up_ne _ _ (by decide)]; exact fr_821
  have fr_876 : M_828 39 = none := by rw [eM_831, va_up_ne _ _ (by decide)]; exact fr_822
  have fr_877 : M_828 40 = none := by rw [eM_831, va_up_ne _ _ (by decide)]; exact fr_823
  have fr_878 : M_828 41 = none := by rw [eM_831, va_up_ne _ _ (by decide)]; exact fr_824
  have fr_879 : M_828 42 = none := by rw [eM_831, va_up_ne _ _ (by decide)]; exact fr_825
  have fr_880 : M_828 43 = none := by rw [eM_831, va_up_ne _ _ (by decide)]; exact fr_826
  have hF_881 : ∀ j : Nat, j ≠ 1 → j ≠ 2 → j ≠ 0 → j ≠ 3 → j ≠ 4 → j ≠ 5 → j ≠ 6 → j ≠ 7 → j ≠ 8 → j ≠ 9 → j ≠ 10 → j ≠ 11 → j ≠ 12 → j ≠ 13 → j ≠ 14 → j ≠ 15 → j ≠ 16 → j ≠ 17 → j ≠ 19 → j ≠ 20 → j ≠ 21 → M_828 j = M j := fun j q0 q1 q2 q3 q4 q5 q6 q7 q8 q9 q10 q11 q12 q13 q14 q15 q16 q17 q18 q19 q20 => by rw [eM_831, va_up_ne _ _ q2]; exact hF_827 j q0 q1 q2 q3 q4 q5 q6 q7 q8 q9 q10 q11 q12 q13 q14 q15 q16 q17 q18 q19 q20
  clear hm_783 hm_784 hm_785 hm_786 hm_787 hm_788 hm_789 hm_790 hm_791 hm_792 hm_793 hm_794 hm_795 hm_796 hm_797 hm_798 hm_776 hm_777 hm_778 hm_779 hm_780 fr_799 fr_800 fr_801 fr_802 fr_803 fr_804 fr_805 fr_806 fr_807 fr_808 fr_809 fr_810 fr_811 fr_812 fr_813 fr_814 fr_815 fr_816 fr_817 fr_818 fr_819 fr_820 fr_821 fr_822 fr_823 fr_824 fr_825 fr_826 hF_827
  refine lv_aload_n hx hb dX9_init_59 rfl (lv_at hl 0 rfl) ?_
  refine n_eqv (show Value.ref (ad 0) = .ref (ad_768 0) from by rw [hAd_781 0 (by decide) (by decide) (by decide) (by decide), hAd_712 0 (by decide), hAd_604 0 (by decide) (by decide) (by decide), hAd_537 0 (by decide), hAd_429 0 (by decide) (by decide) (by decide), hAd_359 0 (by decide), hAd_252 0 (by decide) (by decide) (by decide) (by decide), hAd_180 0 (by decide), hAd_70 0 (by decide), hAd_7 0 (by decide)]) ?_
  refine h_new (C := RX7) (T := TX7) (N := 4) (ci := 8) (fs := [.int (nI 0), .int (nI 0), .int (nI 0), .int (nI 0)]) hx hb hts i_RX7 tyX7 tyX7_ok hown nw_c44 nw_i44 nw_n44 hI rfl (fun j hj => match j, hj with | 0, _ => rfl | 1, _ => rfl | 2, _ => rfl | 3, _ => rfl | n + 4, h => absurd h (by omega)) (Nat.le_of_ble_eq_true rfl) (Nat.le_of_ble_eq_true rfl) dX9_init_60 22 fr_853 (fun ad_882 M_883 H_884 hA_885 eM_886 hI => ?_)
  have hAd_888 : ∀ j : Nat, j ≠ 22 → ad_882 j = ad_768 j := fun j hj => by obtain ⟨q, e⟩ := hA_885; rw [e]; exact va_up_ne _ _ hj
  have hm_889 : M_883 22 = some (.inr (8, [.int (nI 0), .int (nI 0), .int (nI 0), .int (nI 0)])) := by rw [eM_886]; exact va_up_self _ _ _
  have hm_890 : M_883 0 = some (.inr (10, [.ref (ad_882 1), .ref (ad_882 3), .ref (ad_882 8), .ref (ad_882 12), .ref (ad_882 16), .null, .null, .null, .null, .int (nI 0)])) := by rw [eM_886, va_up_ne _ _ (by decide), hm_832]; rw [hAd_888 1 (by decide), hAd_888 3 (by decide), hAd_888 8 (by decide), hAd_888 12 (by decide), hAd_888 16 (by decide)]
  have hm_891 : M_883 1 = some (cTape ad_882 0) := by rw [eM_886, va_up_ne _ _ (by decide), hm_833]; simp only [cTape, hAd_888 2 (by decide)]
  have hm_892 : M_883 2 = some (aI G 400 (nF (fun _ => 0))) := by rw [eM_886, va_up_ne _ _ (by decide), hm_834]
  have hm_893 : M_883 3 = some (cLaws ad_882 ) := by rw [eM_886, va_up_ne _ _ (by decide), hm_835]; simp only [cLaws, hAd_888 4 (by decide), hAd_888 5 (by decide), hAd_888 6 (by decide), hAd_888 7 (by decide)]
  have hm_894 : M_883 4 = some (aI G 36 (nF (fun _ => 0))) := by rw [eM_886, va_up_ne _ _ (by decide), hm_836]
  have hm_895 : M_883 5 = some (aI G 36 (nF mo_245)) := by rw [eM_886, va_up_ne _ _ (by decide), hm_837]
  have hm_896 : M_883 6 = some (aI G 36 (nF (fun _ => 0))) := by rw [eM_886, va_up_ne _ _ (by decide), hm_838]
  have hm_897 : M_883 7 = some (aZ G 6 (bF ho_246)) := by rw [eM_886, va_up_ne _ _ (by decide), hm_839]
  have hm_898 : M_883 8 = some (cOnes ad_882 0) := by rw [eM_886, va_up_ne _ _ (by decide), hm_840]; simp only [cOnes, hAd_888 9 (by decide), hAd_888 10 (by decide), hAd_888 11 (by decide)]
  have hm_899 : M_883 9 = some (aI G 40 (nF hg_423)) := by rw [eM_886, va_up_ne _ _ (by decide), hm_841]
  have hm_900 : M_883 10 = some (aI G 40 (nF lst_424)) := by rw [eM_886, va_up_ne _ _ (by decide), hm_842]
  have hm_901 : M_883 11 = some (aI G 40 (nF (fun _ => 0))) := by rw [eM_886, va_up_ne _ _ (by decide), hm_843]
  have hm_902 : M_883 12 = some (cEnds ad_882 12 0) := by rw [eM_886, va_up_ne _ _ (by decide), hm_844]; simp only [cEnds, hAd_888 13 (by decide), hAd_888 14 (by decide), hAd_888 15 (by decide)]
  have hm_903 : M_883 13 = some (aI G 6 (nF (fun _ => 0))) := by rw [eM_886, va_up_ne _ _ (by decide), hm_845]
  have hm_904 : M_883 14 = some (aI G 6 (nF (fun _ => 0))) := by rw [eM_886, va_up_ne _ _ (by decide), hm_846]
  have hm_905 : M_883 15 = some (aI G 6 (nF (fun _ => 0))) := by rw [eM_886, va_up_ne _ _ (by decide), hm_847]
  have hm_906 : M_883 16 = some (cLines ad_882 ) := by rw [eM_886, va_up_ne _ _ (by decide), hm_848]; simp only [cLines, hAd_888 17 (by decide), hAd_888 19 (by decide), hAd_888 20 (by decide), hAd_888 21 (by decide)]
  have hm_907 : M_883 17 = some (cList ad_882 (nI 0) G.2.2.2.2 0) := by rw [eM_886, va_up_ne _ _ (by decide), hm_849]
  have hm_908 : M_883 19 = some (aZ G 120 (bF (fun _ => false))) := by rw [eM_886, va_up_ne _ _ (by decide), hm_850]
  have hm_909 : M_883 20 = some (aI G 120 (nF (fun _ => 0))) := by rw [eM_886, va_up_ne _ _ (by decide), hm_851]
  have hm_910 : M_883 21 = some (aI G 120 (nF (fun _ => 0))) := by rw [eM_886, va_up_ne _ _ (by decide), hm_852]
  have fr_911 : M_883 23 = none := by rw [eM_886, va_up_ne _ _ (by decide)]; exact fr_854
  have fr_912 : M_883 24 = none := by rw [eM_886, va_up_ne _ _ (by decide)]; exact fr_855
  have fr_913 : M_883 25 = none := by rw [eM_886, va_up_ne _ _ (by decide)]; exact fr_856
  have fr_914 : M_883 26 = none := by rw [eM_886, va_up_ne _ _ (by decide)]; exact fr_857
  have fr_915 : M_883 27 = none := by rw [eM_886, va_up_ne _ _ (by decide)]; exact fr_858
  have fr_916 : M_883 28 = none := by rw [eM_886, va_up_ne _ _ (by decide)]; exact fr_859
  have fr_917 : M_883 44 = none := by rw [eM_886, va_up_ne _ _ (by decide)]; exact fr_860
  have fr_918 : M_883 45 = none := by rw [eM_886, va_up_ne _ _ (by decide)]; exact fr_861
  have fr_919 : M_883 46 = none := by rw [eM_886, va_up_ne _ _ (by decide)]; exact fr_862
  have fr_920 : M_883 47 = none := by rw [eM_886, va_up_ne _ _ (by decide)]; exact fr_863
  have fr_921 : M_883 48 = none := by rw [eM_886, va_up_ne _ _ (by decide)]; exact fr_864
  have fr_922 : M_883 49 = none := by rw [eM_886, va_up_ne _ _ (by decide)]; exact fr_865
  have fr_923 : M_883 50 = none := by rw [eM_886, va_up_ne _ _ (by decide)]; exact fr_866
  have fr_924 : M_883 30 = none := by rw [eM_886, va_up_ne _ _ (by decide)]; exact fr_867
  have fr_925 : M_883 31 = none := by rw [eM_886, va_up_ne _ _ (by decide)]; exact fr_868
  have fr_926 : M_883 32 = none := by rw [eM_886, va_up_ne _ _ (by decide)]; exact fr_869
  have fr_927 : M_883 33 = none := by rw [eM_886, va_up_ne _ _ (by decide)]; exact fr_870
  have fr_928 : M_883 34 = none := by rw [eM_886, va_up_ne _ _ (by decide)]; exact fr_871
  have fr_929 : M_883 35 = none := by rw [eM_886, va_up_ne _ _ (by decide)]; exact fr_872
  have fr_930 : M_883 36 = none := by rw [eM_886, va_up_ne _ _ (by decide)]; exact fr_873
  have fr_931 : M_883 37 = none := by rw [eM_886, va_up_ne _ _ (by decide)]; exact fr_874
  have fr_932 : M_883 38 = none := by rw [eM_886, va_up_ne _ _ (by decide)]; exact fr_875
  have fr_933 : M_883 39 = none := by rw [eM_886, va_up_ne _ _ (by decide)]; exact fr_876
  have fr_934 : M_883 40 = none := by rw [eM_886, va_up_ne _ _ (by decide)]; exact fr_877
  have fr_935 : M_883 41 = none := by rw [eM_886, va_up_ne _ _ (by decide)]; exact fr_878
  have fr_936 : M_883 42 = none := by rw [eM_886, va_up_ne _ _ (by decide)]; exact fr_879
  have fr_937 : M_883 43 = none := by rw [eM_886, va_up_ne _ _ (by decide)]; exact fr_880
  clear hm_832 hm_833 hm_834 hm_835 hm_836 hm_837 hm_838 hm_839 hm_840 hm_841 hm_842 hm_843 hm_844 hm_845 hm_846 hm_847 hm_848 hm_849 hm_850 hm_851 hm_852 fr_854 fr_855 fr_856 fr_857 fr_858 fr_859 fr_860 fr_861 fr_862 fr_863 fr_864 fr_865 fr_866 fr_867 fr_868 fr_869 fr_870 fr_871 fr_872 fr_873 fr_874 fr_875 fr_876 fr_877 fr_878 fr_879 fr_880
  have hF_938 : ∀ j : Nat, j ≠ 1 → j ≠ 2 → j ≠ 0 → j ≠ 3 → j ≠ 4 → j ≠ 5 → j ≠ 6 → j ≠ 7 → j ≠ 8 → j ≠ 9 → j ≠ 10 → j ≠ 11 → j ≠ 12 → j ≠ 13 → j ≠ 14 → j ≠ 15 → j ≠ 16 → j ≠ 17 → j ≠ 19 → j ≠ 20 → j ≠ 21 → j ≠ 22 → M_883 j = M j := fun j q0 q1 q2 q3 q4 q5 q6 q7 q8 q9 q10 q11 q12 q13 q14 q15 q16 q17 q18 q19 q20 q21 => by rw [eM_886, va_up_ne _ _ q21]; exact hF_881 j q0 q1 q2 q3 q4 q5 q6 q7 q8 q9 q10 q11 q12 q13 q14 q15 q16 q17 q18 q19 q20
  clear hF_881
  refine n_eqs (show ([.ref (ad_882 22), .ref (ad_768 0)] : List Value) = [.ref (ad_882 22), .ref (ad_882 0)] from by rw [hAd_888 0 (by decide)]) ?_
  refine lv_dup hx hb dX9_init_63 rfl ?_
  refine k_Nv (va_runIN (As := []) (rest := [.ref (ad_882 22), .ref (ad_882 0)]) ⟨hx, hb, hml, hown, hts⟩ (c_X7_init l G z ad_882 M_883  hm_889) ⟨va_cnB 0 hts (gU (lwg_of t_162 rfl)) rfl rfl rfl (nwm_at (i := 3) (q := ("LineStore", 46, ⟨"LineStore$Reader", "<init>", "()V"⟩, "LineStore")) hI rfl) sp_46 (by decide +kernel) ⟨Nat.le_of_ble_eq_true rfl, Nat.le_of_ble_eq_true rfl⟩, rfl, in_46⟩ hI.preS rfl rfl hl.1 rfl (lv_room (Nat.le_of_ble_eq_true rfl)) dX9_init_64 ⟨Nat.le_of_ble_eq_true rfl, Nat.le_of_ble_eq_true rfl⟩) hI (fun M_941 H_942 locs_943 hp_940 hI => ?_)
  obtain ⟨hm_944, hF_945⟩ := hp_940
  have hm_946 : M_941 0 = some (.inr (10, [.ref (ad_882 1), .ref (ad_882 3), .ref (ad_882 8), .ref (ad_882 12), .ref (ad_882 16), .null, .null, .null, .null, .int (nI 0)])) := by rw [hF_945 0 (by omega)]; exact hm_890
  have hm_947 : M_941 1 = some (cTape ad_882 0) := by rw [hF_945 1 (by omega)]; exact hm_891
  have hm_948 : M_941 2 = some (aI G 400 (nF (fun _ => 0))) := by rw [hF_945 2 (by omega)]; exact hm_892
  have hm_949 : M_941 3 = some (cLaws ad_882 ) := by rw [hF_945 3 (by omega)]; exact hm_893
  have hm_950 : M_941 4 = some (aI G 36 (nF (fun _ => 0))) := by rw [hF_945 4 (by omega)]; exact hm_894
  have hm_951 : M_941 5 = some (aI G 36 (nF mo_245)) := by rw [hF_945 5 (by omega)]; exact hm_895
  have hm_952 : M_941 6 = some (aI G 36 (nF (fun _ => 0))) := by rw [hF_945 6 (by omega)]; exact hm_896
  have hm_953 : M_941 7 = some (aZ G 6 (bF ho_246)) := by rw [hF_945 7 (by omega)]; exact hm_897
  have hm_954 : M_941 8 = some (cOnes ad_882 0) := by rw [hF_945 8 (by omega)]; exact hm_898
  have hm_955 : M_941 9 = some (aI G 40 (nF hg_423)) := by rw [hF_945 9 (by omega)]; exact hm_899
  have hm_956 : M_941 10 = some (aI G 40 (nF lst_424)) := by rw [hF_945 10 (by omega)]; exact hm_900
  have hm_957 : M_941 11 = some (aI G 40 (nF (fun _ => 0))) := by rw [hF_945 11 (by omega)]; exact hm_901
  have hm_958 : M_941 12 = some (cEnds ad_882 12 0) := by rw [hF_945 12 (by omega)]; exact hm_902
  have hm_959 : M_941 13 = some (aI G 6 (nF (fun _ => 0))) := by rw [hF_945 13 (by omega)]; exact hm_903
  have hm_960 : M_941 14 = some (aI G 6 (nF (fun _ => 0))) := by rw [hF_945 14 (by omega)]; exact hm_904
  have hm_961 : M_941 15 = some (aI G 6 (nF (fun _ => 0))) := by rw [hF_945 15 (by omega)]; exact hm_905
  have hm_962 : M_941 16 = some (cLines ad_882 ) := by rw [hF_945 16 (by omega)]; exact hm_906
  have hm_963 : M_941 17 = some (cList ad_882 (nI 0) G.2.2.2.2 0) := by rw [hF_945 17 (by omega)]; exact hm_907
  have hm_964 : M_941 19 = some (aZ G 120 (bF (fun _ => false))) := by rw [hF_945 19 (by omega)]; exact hm_908
  have hm_965 : M_941 20 = some (aI G 120 (nF (fun _ => 0))) := by rw [hF_945 20 (by omega)]; exact hm_909
  have hm_966 : M_941 21 = some (aI G 120 (nF (fun _ => 0))) := by rw [hF_945 21 (by omega)]; exact hm_910
  have fr_967 : M_941 23 = none := by rw [hF_945 23 (by omega)]; exact fr_911
  have fr_968 : M_941 24 = none := by rw [hF_945 24 (by omega)]; exact fr_912
  have fr_969 : M_941 25 = none := by rw [hF_945 25 (by omega)]; exact fr_913
  have fr_970 : M_941 26 = none := by rw [hF_945 26 (by omega)]; exact fr_914
  have fr_971 : M_941 27 = none := by rw [hF_945 27 (by omega)]; exact fr_915
  have fr_972 : M_941 28 = none := by rw [hF_945 28 (by omega)]; exact fr_916
  have fr_973 : M_941 44 = none := by rw [hF_945 44 (by omega)]; exact fr_917
  have fr_974 : M_941 45 = none := by rw [hF_945 45 (by omega)]; exact fr_918
  have fr_975 : M_941 46 = none := by rw [hF_945 46 (by omega)]; exact fr_919
  have fr_976 : M_941 47 = none := by rw [hF_945 47 (by omega)]; exact fr_920
  have fr_977 : M_941 48 = none := by rw [hF_945 48 (by omega)]; exact fr_921
  have fr_978 : M_941 49 = none := by rw [hF_945 49 (by omega)]; exact fr_922
  have fr_979 : M_941 50 = none := by rw [hF_945 50 (by omega)]; exact fr_923
  have fr_980 : M_941 30 = none := by rw [hF_945 30 (by omega)]; exact fr_924
  have fr_981 : M_941 31 = none := by rw [hF_945 31 (by omega)]; exact fr_925
  have fr_982 : M_941 32 = none := by rw [hF_945 32 (by omega)]; exact fr_926
  have fr_983 : M_941 33 = none := by rw [hF_945 33 (by omega)]; exact fr_927
  have fr_984 : M_941 34 = none := by rw [hF_945 34 (by omega)]; exact fr_928
  have fr_985 : M_941 35 = none := by rw [hF_945 35 (by omega)]; exact fr_929
  have fr_986 : M_941 36 = none := by rw [hF_945 36 (by omega)]; exact fr_930
  have fr_987 : M_941 37 = none := by rw [hF_945 37 (by omega)]; exact fr_931
  have fr_988 : M_941 38 = none := by rw [hF_945 38 (by omega)]; exact fr_932
  have fr_989 : M_941 39 = none := by rw [hF_945 39 (by omega)]; exact fr_933
  have fr_990 : M_941 40 = none := by rw [hF_945 40 (by omega)]; exact fr_934
  have fr_991 : M_941 41 = none := by rw [hF_945 41 (by omega)]; exact fr_935
  have fr_992 : M_941 42 = none := by rw [hF_945 42 (by omega)]; exact fr_936
  have fr_993 : M_941 43 = none := by rw [hF_945 43 (by omega)]; exact fr_937
  have hF_994 : ∀ j : Nat, j ≠ 1 → j ≠ 2 → j ≠ 0 → j ≠ 3 → j ≠ 4 → j ≠ 5 → j ≠ 6 → j ≠ 7 → j ≠ 8 → j ≠ 9 → j ≠ 10 → j ≠ 11 → j ≠ 12 → j ≠ 13 → j ≠ 14 → j ≠ 15 → j ≠ 16 → j ≠ 17 → j ≠ 19 → j ≠ 20 → j ≠ 21 → j ≠ 22 → M_941 j = M j := fun j q0 q1 q2 q3 q4 q5 q6 q7 q8 q9 q10 q11 q12 q13 q14 q15 q16 q17 q18 q19 q20 q21 => (hF_945 j q21).trans (hF_938 j q0 q1 q2 q3 q4 q5 q6 q7 q8 q9 q10 q11 q12 q13 q14 q15 q16 q17 q18 q19 q20 q21)
  refine h_putF (C := RX9) (T := TX9) (N := 10) hx hb hts i_RX9 tyX9 tyX9_ok nmX9 hown hI hm_946 rfl 5 (by decide) f_47 rfl rfl hini rfl rfl rfl (Nat.le_of_ble_eq_true rfl) dX9_init_67 (fun M_995 H_996 locs_997 eM_998 hI => ?_)
  have hm_999 : M_995 0 = some (.inr (10, [.ref (ad_882 1), .ref (ad_882 3), .ref (ad_882 8), .ref (ad_882 12), .ref (ad_882 16), .ref (ad_882 22), .null, .null, .null, .int (nI 0)])) := by rw [eM_998]; exact va_up_self _ _ _
  have hm_1000 : M_995 1 = some (cTape ad_882 0) := by rw [eM_998, va_up_ne _ _ (by decide)]; exact hm_947
  have hm_1001 : M_995 2 = some (aI G 400 (nF (fun _ => 0))) := by rw [eM_998, va_up_ne _ _ (by decide)]; exact hm_948
  have hm_1002 : M_995 3 = some (cLaws ad_882 ) := by rw [eM_998, va_up_ne _ _ (by decide)]; exact hm_949
  have hm_1003 : M_995 4 = some (aI G 36 (nF (fun _ => 0))) := by rw [eM_998, va_up_ne _ _ (by decide)]; exact hm_950
  have hm_1004 : M_995 5 = some (aI G 36 (nF mo_245)) := by rw [eM_998, va_up_ne _ _ (by decide)]; exact hm_951
  have hm_1005 : M_995 6 = some (aI G 36 (nF (fun _ => 0))) := by rw [eM_998, va_up_ne _ _ (by decide)]; exact hm_952
  have hm_1006 : M_995 7 = some (aZ G 6 (bF ho_246)) := by rw [eM_998, va_up_ne _ _ (by decide)]; exact hm_953
  have hm_1007 : M_995 8 = some (cOnes ad_882 0) := by rw [eM_998, va_up_ne _ _ (by decide)]; exact hm_954
  have hm_1008 : M_995 9 = some (aI G 40 (nF hg_423)) := by rw [eM_998, va_up_ne _ _ (by decide)]; exact hm_955
  have hm_1009 : M_995 10 = some (aI G 40 (nF lst_424)) := by rw [eM_998, va_up_ne _ _ (by decide)]; exact hm_956
  have hm_1010 : M_995 11 = some (aI G 40 (nF (fun _ => 0))) := by rw [eM_998, va_up_ne _ _ (by decide)]; exact hm_957
  have hm_1011 : M_995 12 = some (cEnds ad_882 12 0) := by rw [eM_998, va_up_ne _ _ (by decide)]; exact hm_958
  have hm_1012 : M_995 13 = some (aI G 6 (nF (fun _ => 0))) := by rw [eM_998, va_up_ne _ _ (by decide)]; exact hm_959
  have hm_1013 : M_995 14 = some (aI G 6 (nF (fun _ => 0))) := by rw [eM_998, va_up_ne _ _ (by decide)]; exact hm_960
  have hm_1014 : M_995 15 = some (aI G 6 (nF (fun _ => 0))) := by rw [eM_998, va_up_ne _ _ (by decide)]; exact hm_961
  have hm_1015 : M_995 16 = some (cLines ad_882 ) := by rw [eM_998, va_up_ne _ _ (by decide)]; exact hm_962
  have hm_1016 : M_995 17 = some (cList ad_882 (nI 0) G.2.2.2.2 0) := by rw [eM_998, va_up_ne _ _ (by decide)]; exact hm_963
  have hm_1017 : M_995 19 = some (aZ G 120 (bF (fun _ => false))) := by rw [eM_998, va_up_ne _ _ (by decide)]; exact hm_964
  have hm_1018 : M_995 20 = some (aI G 120 (nF (fun _ => 0))) := by rw [eM_998, va_up_ne _ _ (by decide)]; exact hm_965
  have hm_1019 : M_995 21 = some (aI G 120 (nF (fun _ => 0))) := by rw [eM_998, va_up_ne _ _ (by decide)]; exact hm_966
  have hm_1020 : M_995 22 = some (cReader ad_882 0 0 (nI 0) (nI 0)) := by rw [eM_998, va_up_ne _ _ (by decide)]; exact hm_944
  have fr_1021 : M_995 23 = none := by rw [eM_998, va_up_ne _ _ (by decide)]; exact fr_967
  have fr_1022 : M_995 24 = none := by rw [eM_998, va_up_ne _ _ (by decide)]; exact fr_968
  have fr_1023 : M_995 25 = none := by rw [eM_998, va_up_ne _ _ (by decide)]; exact fr_969
  have fr_1024 : M_995 26 = none := by rw [eM_998, va_up_ne _ _ (by decide)]; exact fr_970
  have fr_1025 : M_995 27 = none := by rw [eM_998, va_up_ne _ _ (by decide)]; exact fr_971
  have fr_1026 : M_995 28 = none := by rw [eM_998, va_up_ne _ _ (by decide)]; exact fr_972
  have fr_1027 : M_995 44 = none := by rw [eM_998, va_up_ne _ _ (by decide)]; exact fr_973
  have fr_1028 : M_995 45 = none := by rw [eM_998, va_up_ne _ _ (by decide)]; exact fr_974
  have fr_1029 : M_995 46 = none := by rw [eM_998, va_up_ne _ _ (by decide)]; exact fr_975
  have fr_1030 : M_995 47 = none := by rw [eM_998, va_up_ne _ _ (by decide)]; exact fr_976
  have fr_1031 : M_995 48 = none := by rw [eM_998, va_up_ne _ _ (by decide)]; exact fr_977
  have fr_1032 : M_995 49 = none := by rw [eM_998, va_up_ne _ _ (by decide)]; exact fr_978
  have fr_1033 : M_995 50 = none := by rw [eM_998, va_up_ne _ _ (by decide)]; exact fr_979
  have fr_1034 : M_995 30 = none := by rw [eM_998, va_up_ne _ _ (by decide)]; exact fr_980
  have fr_1035 : M_995 31 = none := by rw [eM_998, va_up_ne _ _ (by decide)]; exact fr_981
  have fr_1036 : M_995 32 = none := by rw [eM_998, va_up_ne _ _ (by decide)]; exact fr_982
  have fr_1037 : M_995 33 = none := by rw [eM_998, va_up_ne _ _ (by decide)]; exact fr_983
  have fr_1038 : M_995 34 = none := by rw [eM_998, va_up_ne _ _ (by decide)]; exact fr_984
  have fr_1039 : M_995 35 = none := by rw [eM_998, va_up_ne _ _ (by decide)]; exact fr_985
  have fr_1040 : M_995 36 = none := by rw [eM_998, va_up_ne _ _ (by decide)]; exact fr_986
  have fr_1041 : M_995 37 = none := by rw [eM_998, va_up_ne _ _ (by decide)]; exact fr_987
  have fr_1042 : M_995 38 = none := by rw [eM_998, va_up_ne _ _ (by decide)]; exact fr_988
  have fr_1043 : M_995 39 = none := by rw [eM_998, va_up_ne _ _ (by decide)]; exact fr_989
  have fr_1044 : M_995 40 = none := by rw [eM_998, va_up_ne _ _ (by decide)]; exact fr_990
  have fr_1045 : M_995 41 = none := by rw [eM_998, va_up_ne _ _ (by decide)]; exact fr_991
  have fr_1046 : M_995 42 = none := by rw [eM_998, va_up_ne _ _ (by decide)]; exact fr_992
  have fr_1047 : M_995 43 = none := by rw [eM_998, va_up_ne _ _ (by decide)]; exact fr_993
  have hF_1048 : ∀ j : Nat, j ≠ 1 → j ≠ 2 → j ≠ 0 → j ≠ 3 → j ≠ 4 → j ≠ 5 → j ≠ 6 → j ≠ 7 → j ≠ 8 → j ≠ 9 → j ≠ 10 → j ≠ 11 → j ≠ 12 → j ≠ 13 → j ≠ 14 → j ≠ 15 → j ≠ 16 → j ≠ 17 → j ≠ 19 → j ≠ 20 → j ≠ 21 → j ≠ 22 → M_995 j = M j := fun j q0 q1 q2 q3 q4 q5 q6 q7 q8 q9 q10 q11 q12 q13 q14 q15 q16 q17 q18 q19 q20 q21 => by rw [eM_998, va_up_ne _ _ q2]; exact hF_994 j q0 q1 q2 q3 q4 q5 q6 q7 q8 q9 q10 q11 q12 q13 q14 q15 q16 q17 q18 q19 q20 q21
  clear hm_946 hm_947 hm_948 hm_949 hm_950 hm_951 hm_952 hm_953 hm_954 hm_955 hm_956 hm_957 hm_958 hm_959 hm_960 hm_961 hm_962 hm_963 hm_964 hm_965 hm_966 hm_944 fr_967 fr_968 fr_969 fr_970 fr_971 fr_972 fr_973 fr_974 fr_975 fr_976 fr_977 fr_978 fr_979 fr_980 fr_981 fr_982 fr_983 fr_984 fr_985 fr_986 fr_987 fr_988 fr_989 fr_990 fr_991 fr_992 fr_993 hF_994
  refine lv_aload_n hx hb dX9_init_70 rfl (lv_at hl 0 rfl) ?_
  refine n_eqv (show Value.ref (ad 0) = .ref (ad_882 0) from by rw [hAd_888 0 (by decide), hAd_781 0 (by decide) (by decide) (by decide) (by decide), hAd_712 0 (by decide), hAd_604 0 (by decide) (by decide) (by decide), hAd_537 0 (by decide), hAd_429 0 (by decide) (by decide) (by decide), hAd_359 0 (by decide), hAd_252 0 (by decide) (by decide) (by decide) (by decide), hAd_180 0 (by decide), hAd_70 0 (by decide), hAd_7 0 (by decide)]) ?_
  refine h_new (C := RX4) (T := TX4) (N := 7) (ci := 5) (fs := [.null, .null, .null, .null, .null, .null, .int (nI 0)]) hx hb hts i_RX4 tyX4 tyX4_ok hown nw_c51 nw_i51 nw_n51 hI rfl (fun j hj => match j, hj with | 0, _ => rfl | 1, _ => rfl | 2, _ => rfl | 3, _ => rfl | 4, _ => rfl | 5, _ => rfl | 6, _ => rfl | n + 7, h => absurd h (by omega)) (Nat.le_of_ble_eq_true rfl) (Nat.le_of_ble_eq_true rfl) dX9_init_71 23 fr_1021 (fun ad_1049 M_1050 H_1051 hA_1052 eM_1053 hI => ?_)
  have hAd_1055 : ∀ j : Nat, j ≠ 23 → ad_1049 j = ad_882 j := fun j hj => by obtain ⟨q, e⟩ := hA_1052; rw [e]; exact va_up_ne _ _ hj
  have hm_1056 : M_1050 23 = some (.inr (5, [.null, .null, .null, .null, .null, .null, .int (nI 0)])) := by rw [eM_1053]; exact va_up_self _ _ _
  have hm_1057 : M_1050 0 = some (.inr (10, [.ref (ad_1049 1), .ref (ad_1049 3), .ref (ad_1049 8), .ref (ad_1049 12), .ref (ad_1049 16), .ref (ad_1049 22), .null, .null, .null, .int (nI 0)])) := by rw [eM_1053, va_up_ne _ _ (by decide), hm_999]; rw [hAd_1055 1 (by decide), hAd_1055 3 (by decide), hAd_1055 8 (by decide), hAd_1055 12 (by decide), hAd_1055 16 (by decide), hAd_1055 22 (by decide)]
  have hm_1058 : M_1050 1 = some (cTape ad_1049 0) := by rw [eM_1053, va_up_ne _ _ (by decide), hm_1000]; simp only [cTape, hAd_1055 2 (by decide)]
  have hm_1059 : M_1050 2 = some (aI G 400 (nF (fun _ => 0))) := by rw [eM_1053, va_up_ne _ _ (by decide), hm_1001]
  have hm_1060 : M_1050 3 = some (cLaws ad_1049 ) := by rw [eM_1053, va_up_ne _ _ (by decide), hm_1002]; simp only [cLaws, hAd_1055 4 (by decide), hAd_1055 5 (by decide), hAd_1055 6 (by decide), hAd_1055 7 (by decide)]
  have hm_1061 : M_1050 4 = some (aI G 36 (nF (fun _ => 0))) := by rw [eM_1053, va_up_ne _ _ (by decide), hm_1003]
  have hm_1062 : M_1050 5 = some (aI G 36 (nF mo_245)) := by rw [eM_1053, va_up_ne _ _ (by decide), hm_1004]
  have hm_1063 : M_1050 6 = some (aI G 36 (nF (fun _ => 0))) := by rw [eM_1053, va_up_ne _ _ (by decide), hm_1005]
  have hm_1064 : M_1050 7 = some (aZ G 6 (bF ho_246)) := by rw [eM_1053, va_up_ne _ _ (by decide), hm_1006]
  have hm_1065 : M_1050 8 = some (cOnes ad_1049 0) := by rw [eM_1053, va_up_ne _ _ (by decide), hm_1007]; simp only [cOnes, hAd_1055 9 (by decide), hAd_1055 10 (by decide), hAd_1055 11 (by decide)]
  have hm_1066 : M_1050 9 = some (aI G 40 (nF hg_423)) := by rw [eM_1053, va_up_ne _ _ (by decide), hm_1008]
  have hm_1067 : M_1050 10 = some (aI G 40 (nF lst_424)) := by rw [eM_1053, va_up_ne _ _ (by decide), hm_1009]
  have hm_1068 : M_1050 11 = some (aI G 40 (nF (fun _ => 0))) := by rw [eM_1053, va_up_ne _ _ (by decide), hm_1010]
  have hm_1069 : M_1050 12 = some (cEnds ad_1049 12 0) := by rw [eM_1053, va_up_ne _ _ (by decide), hm_1011]; simp only [cEnds, hAd_1055 13 (by decide), hAd_1055 14 (by decide), hAd_1055 15 (by decide)]
  have hm_1070 : M_1050 13 = some (aI G 6 (nF (fun _ => 0))) := by rw [eM_1053, va_up_ne _ _ (by decide), hm_1012]
  have hm_1071 : M_1050 14 = some (aI G 6 (nF (fun _ => 0))) := by rw [eM_1053, va_up_ne _ _ (by decide), hm_1013]
  have hm_1072 : M_1050 15 = some (aI G 6 (nF (fun _ => 0))) := by rw [eM_1053, va_up_ne _ _ (by decide), hm_1014]
  have hm_1073 : M_1050 16 = some (cLines ad_1049 ) := by rw [eM_1053, va_up_ne _ _ (by decide), hm_1015]; simp only [cLines, hAd_1055 17 (by decide), hAd_1055 19 (by decide), hAd_1055 20 (by decide), hAd_1055 21 (by decide)]
  have hm_1074 : M_1050 17 = some (cList ad_1049 (nI 0) G.2.2.2.2 0) := by rw [eM_1053, va_up_ne _ _ (by decide), hm_1016]
  have hm_1075 : M_1050 19 = some (aZ G 120 (bF (fun _ => false))) := by rw [eM_1053, va_up_ne _ _ (by decide), hm_1017]
  have hm_1076 : M_1050 20 = some (aI G 120 (nF (fun _ => 0))) := by rw [eM_1053, va_up_ne _ _ (by decide), hm_1018]
  have hm_1077 : M_1050 21 = some (aI G 120 (nF (fun _ => 0))) := by rw [eM_1053, va_up_ne _ _ (by decide), hm_1019]
  have hm_1078 : M_1050 22 = some (cReader ad_1049 0 0 (nI 0) (nI 0)) := by rw [eM_1053, va_up_ne _ _ (by decide), hm_1020]
  have fr_1079 : M_1050 24 = none := by rw [eM_1053, va_up_ne _ _ (by decide)]; exact fr_1022
  have fr_1080 : M_1050 25 = none := by rw [eM_1053, va_up_ne _ _ (by decide)]; exact fr_1023
  have fr_1081 : M_1050 26 = none := by rw [eM_1053, va_up_ne _ _ (by decide)]; exact fr_1024
  have fr_1082 : M_1050 27 = none := by rw [eM_1053, va_up_ne _ _ (by decide)]; exact fr_1025
  have fr_1083 : M_1050 28 = none := by rw [eM_1053, va_up_ne _ _ (by decide)]; exact fr_1026
  have fr_1084 : M_1050 44 = none := by rw [eM_1053, va_up_ne _ _ (by decide)]; exact fr_1027
  have fr_1085 : M_1050 45 = none := by rw [eM_1053, va_up_ne _ _ (by decide)]; exact fr_1028
  have fr_1086 : M_1050 46 = none := by rw [eM_1053, va_up_ne _ _ (by decide)]; exact fr_1029
  have fr_1087 : M_1050 47 = none := by rw [eM_1053, va_up_ne _ _ (by decide)]; exact fr_1030
  have fr_1088 : M_1050 48 = none := by rw [eM_1053, va_up_ne _ _ (by decide)]; exact fr_1031
  have fr_1089 : M_1050 49 = none := by rw [eM_1053, va_up_ne _ _ (by decide)]; exact fr_1032
  have fr_1090 : M_1050 50 = none := by rw [eM_1053, va_up_ne _ _ (by decide)]; exact fr_1033
  have fr_1091 : M_1050 30 = none := by rw [eM_1053, va_up_ne _ _ (by decide)]; exact fr_1034
  have fr_1092 : M_1050 31 = none := by rw [eM_1053, va_up_ne _ _ (by decide)]; exact fr_1035
  have fr_1093 : M_1050 32 = none := by rw [eM_1053, va_up_ne _ _ (by decide)]; exact fr_1036
  have fr_1094 : M_1050 33 = none := by rw [eM_1053, va_up_ne _ _ (by decide)]; exact fr_1037
  have fr_1095 : M_1050 34 = none := by rw [eM_1053, va_up_ne _ _ (by decide)]; exact fr_1038
  have fr_1096 : M_1050 35 = none := by rw [eM_1053, va_up_ne _ _ (by decide)]; exact fr_1039
  have fr_1097 : M_1050 36 = none := by rw [eM_1053, va_up_ne _ _ (by decide)]; exact fr_1040
  have fr_1098 : M_1050 37 = none := by rw [eM_1053, va_up_ne _ _ (by decide)]; exact fr_1041
  have fr_1099 : M_1050 38 = none := by rw [eM_1053, va_up_ne _ _ (by decide)]; exact fr_1042
  have fr_1100 : M_1050 39 = none := by rw [eM_1053, va_up_ne _ _ (by decide)]; exact fr_1043
  have fr_1101 : M_1050 40 = none := by rw [eM_1053, va_up_ne _ _ (by decide)]; exact fr_1044
  have fr_1102 : M_1050 41 = none := by rw [eM_1053, va_up_ne _ _ (by decide)]; exact fr_1045
  have fr_1103 : M_1050 42 = none := by rw [eM_1053, va_up_ne _ _ (by decide)]; exact fr_1046
  have fr_1104 : M_1050 43 = none := by rw [eM_1053, va_up_ne _ _ (by decide)]; exact fr_1047
  clear hm_999 hm_1000 hm_1001 hm_1002 hm_1003 hm_1004 hm_1005 hm_1006 hm_1007 hm_1008 hm_1009 hm_1010 hm_1011 hm_1012 hm_1013 hm_1014 hm_1015 hm_1016 hm_1017 hm_1018 hm_1019 hm_1020 fr_1022 fr_1023 fr_1024 fr_1025 fr_1026 fr_1027 fr_1028 fr_1029 fr_1030 fr_1031 fr_1032 fr_1033 fr_1034 fr_1035 fr_1036 fr_1037 fr_1038 fr_1039 fr_1040 fr_1041 fr_1042 fr_1043 fr_1044 fr_1045 fr_1046 fr_1047
  have hF_1105 : ∀ j : Nat, j ≠ 1 → j ≠ 2 → j ≠ 0 → j ≠ 3 → j ≠ 4 → j ≠ 5 → j ≠ 6 → j ≠ 7 → j ≠ 8 → j ≠ 9 → j ≠ 10 → j ≠ 11 → j ≠ 12 → j ≠ 13 → j ≠ 14 → j ≠ 15 → j ≠ 16 → j ≠ 17 → j ≠ 19 → j ≠ 20 → j ≠ 21 → j ≠ 22 → j ≠ 23 → M_1050 j = M j := fun j q0 q1 q2 q3 q4 q5 q6 q7 q8 q9 q10 q11 q12 q13 q14 q15 q16 q17 q18 q19 q20 q21 q22 => by rw [eM_1053, va_up_ne _ _ q22]; exact hF_1048 j q0 q1 q2 q3 q4 q5 q6 q7 q8 q9 q10 q11 q12 q13 q14 q15 q16 q17 q18 q19 q20 q21
  clear hF_1048
  refine n_eqs (show ([.ref (ad_1049 23), .ref (ad_882 0)] : List Value) = [.ref (ad_1049 23), .ref (ad_1049 0)] from by rw [hAd_1055 0 (by decide)]) ?_
  refine lv_dup hx hb dX9_init_74 rfl ?_
  refine k_Av (va_runIN (As := []) (rest := [.ref (ad_1049 23), .ref (ad_1049 0)]) ⟨hx, hb, hml, hown, hts⟩ (c_X4_init l G z ad_1049 M_1050  hm_1056 fr_1079 fr_1080 fr_1081 fr_1082 fr_1083 fr_1084 fr_1085 fr_1086 fr_1087 fr_1088 fr_1089 fr_1090) ⟨va_cnB 0 hts (gU (lwg_of t_181 rfl)) rfl rfl rfl (nwm_at (i := 4) (q := ("LineStore", 53, ⟨"LineStore$Matcher", "<init>", "()V"⟩, "LineStore")) hI rfl) sp_53 (by decide +kernel) ⟨Nat.le_of_ble_eq_true rfl, Nat.le_of_ble_eq_true rfl⟩, rfl, in_53⟩ hI.preS rfl rfl hl.1 rfl (lv_room (Nat.le_of_ble_eq_true rfl)) dX9_init_75 ⟨Nat.le_of_ble_eq_true rfl, Nat.le_of_ble_eq_true rfl⟩) hI (fun ad_1111 M_1108 H_1109 locs_1110 hp_1107 hI => ?_)
  obtain ⟨hm_1112, hm_1113, hm_1114, hm_1115, hm_1116, hm_1117, hm_1118, hm_1119, hm_1120, hm_1121, hm_1122, hm_1123, hm_1124, hF_1125, hAd_1126⟩ := hp_1107
  have hm_1127 : M_1108 23 = some (cMatcher ad_1111 44 0) := hm_1112
  have hm_1128 : M_1108 24 = some (aJ G 2160 (fun _ => 0)) := hm_1113
  have hm_1129 : M_1108 25 = some (aI G 6 (nF (fun _ => 0))) := hm_1114
  have hm_1130 : M_1108 26 = some (aJ G 240 (fun _ => 0)) := hm_1115
  have hm_1131 : M_1108 27 = some (aJ G 3 (fun _ => 0)) := hm_1116
  have hm_1132 : M_1108 28 = some (aI G 3 (nF (fun _ => 0))) := hm_1117
  have hm_1133 : M_1108 44 = some (cQuestion ad_1111 44 0 0) := hm_1118
  have hm_1134 : M_1108 45 = some (aI G 6 (nF (fun _ => 0))) := hm_1119
  have hm_1135 : M_1108 46 = some (aZ G 6 (bF (fun _ => false))) := hm_1120
  have hm_1136 : M_1108 47 = some (aI G 6 (nF (fun _ => 0))) := hm_1121
  have hm_1137 : M_1108 48 = some (aI G 6 (nF (fun _ => 0))) := hm_1122
  have hm_1138 : M_1108 49 = some (aI G 24 (nF (fun _ => 0))) := hm_1123
  have hm_1139 : M_1108 50 = some (aI G 24 (nF (fun _ => 0))) := hm_1124
  have hAd_1140 : ∀ j : Nat, j ≠ 24 → j ≠ 25 → j ≠ 26 → j ≠ 27 → j ≠ 28 → j ≠ 44 → j ≠ 45 → j ≠ 46 → j ≠ 47 → j ≠ 48 → j ≠ 49 → j ≠ 50 → ad_1111 j = ad_1049 j := hAd_1126
  have hF_1141 : ∀ j : Nat, j ≠ 23 → j ≠ 24 → j ≠ 25 → j ≠ 26 → j ≠ 27 → j ≠ 28 → j ≠ 44 → j ≠ 45 → j ≠ 46 → j ≠ 47 → j ≠ 48 → j ≠ 49 → j ≠ 50 → M_1108 j = M_1050 j := hF_1125
  have hm_1142 : M_1108 0 = some (.inr (10, [.ref (ad_1111 1), .ref (ad_1111 3), .ref (ad_1111 8), .ref (ad_1111 12), .ref (ad_1111 16), .ref (ad_1111 22), .null, .null, .null, .int (nI 0)])) := by rw [hF_1141 0 (by decide) (by decide) (by decide) (by decide) (by decide) (by decide) (by decide) (by decide) (by decide) (by decide) (by decide) (by decide) (by decide), hm_1057]; rw [hAd_1140 1 (by decide) (by decide) (by decide) (by decide) (by decide) (by decide) (by decide) (by decide) (by decide) (by decide) (by decide) (by decide), hAd_1140 3 (by decide) (by decide) (by decide) (by decide) (by decide) (by decide) (by decide) (by decide) (by decide) (by decide) (by decide) (by decide), hAd_1140 8 (by decide) (by decide) (by decide) (by decide) (by decide) (by decide) (by decide) (by decide) (by decide) (by decide) (by decide) (by decide), hAd_1140 12 (by decide) (by decide) (by decide) (by decide) (by decide) (by decide) (by decide) (by decide) (by decide) (by decide) (by decide) (by decide), hAd_1140 16 (by decide) (by decide) (by decide) (by decide) (by decide) (by decide) (by decide) (by decide) (by decide) (by decide) (by decide) (by decide), hAd_1140 22 (by decide) (by decide) (by decide) (by decide) (by decide) (by decide) (by decide) (by decide) (by decide) (by decide) (by decide) (by decide)]
  have hm_1143 : M_1108 1 = some (cTape ad_1111 0) := by rw [hF_1141 1 (by decide) (by decide) (by decide) (by decide) (by decide) (by decide) (by decide) (by decide) (by decide) (by decide) (by decide) (by decide) (by decide), hm_1058]; simp only [cTape, hAd_1140 2 (by decide) (by decide) (by decide) (by decide) (by decide) (by decide) (by decide) (by decide) (by decide) (by decide) (by decide) (by decide)]
  have hm_1144 : M_1108 2 = some (aI G 400 (nF (fun _ => 0))) := by rw [hF_1141 2 (by decide) (by decide) (by decide) (by decide) (by decide) (by decide) (by decide) (by decide) (by decide) (by decide) (by decide) (by decide) (by decide), hm_1059]
  have hm_1145 : M_1108 3 = some (cLaws ad_1111 ) := by rw [hF_1141 3 (by decide) (by decide) (by decide) (by decide) (by decide) (by decide) (by decide) (by decide) (by decide) (by decide) (by decide) (by decide) (by decide), hm_1060]; simp only [cLaws, hAd_1140 4 (by decide) (by decide) (by decide) (by decide) (by decide) (by decide) (by decide) (by decide) (by decide) (by decide) (by decide) (by decide), hAd_1140 5 (by decide) (by decide) (by decide) (by decide) (by decide) (by decide) (by decide) (by decide) (by decide) (by decide) (by decide) (by decide), hAd_1140 6 (by decide) (by decide) (by decide) (by decide) (by decide) (by decide) (by decide) (by decide) (by decide) (by decide) (by decide) (by decide), hAd_1140 7 (by decide) (by decide) (by decide) (by decide) (by decide) (by decide) (by decide) (by decide) (by decide) (by decide) (by decide) (by decide)]
  have hm_1146 : M_1108 4 = some (aI G 36 (nF (fun _ => 0))) := by rw [hF_1141 4 (by decide) (by decide) (by decide) (by decide) (by decide) (by decide) (by decide) (by decide) (by decide) (by decide) (by decide) (by decide) (by decide), hm_1061]
  have hm_1147 : M_1108 5 = some (aI G 36 (nF mo_245)) := by rw [hF_1141 5 (by decide) (by decide) (by decide) (by decide) (by decide) (by decide) (by decide) (by decide) (by decide) (by decide) (by decide) (by decide) (by decide), hm_1062]
  have hm_1148 : M_1108 6 = some (aI G 36 (nF (fun _ => 0))) := by rw [hF_1141 6 (by decide) (by decide) (by decide) (by decide) (by decide) (by decide) (by decide) (by decide) (by decide) (by decide) (by decide) (by decide) (by decide), hm_1063]
  have hm_1149 : M_1108 7 = some (aZ G 6 (bF ho_246)) := by rw [hF_1141 7 (by decide) (by decide) (by decide) (by decide) (by decide) (by decide) (by decide) (by decide) (by decide) (by decide) (by decide) (by decide) (by decide), hm_1064]
  have hm_1150 : M_1108 8 = some (cOnes ad_1111 0) := by rw [hF_1141 8 (by decide) (by decide) (by decide) (by decide) (by decide) (by decide) (by decide) (by decide) (by decide) (by decide) (by decide) (by decide) (by decide), hm_1065]; simp only [cOnes, hAd_1140 9 (by decide) (by decide) (by decide) (by decide) (by decide) (by decide) (by decide) (by decide) (by decide) (by decide) (by decide) (by decide), hAd_1140 10 (by decide) (by decide) (by decide) (by decide) (by decide) (by decide) (by decide) (by decide) (by decide) (by decide) (by decide) (by decide), hAd_1140 11 (by decide) (by decide) (by decide) (by decide) (by decide) (by decide) (by decide) (by decide) (by decide) (by decide) (by decide) (by decide)]
  have hm_1151 : M_1108 9 = some (aI G 40 (nF hg_423)) := by rw [hF_1141 9 (by decide) (by decide) (by decide) (by decide) (by decide) (by decide) (by decide) (by decide) (by decide) (by decide) (by decide) (by decide) (by decide), hm_1066]
  have hm_1152 : M_1108 10 = some (aI G 40 (nF lst_424)) := by rw [hF_1141 10 (by decide) (by decide) (by decide) (by decide) (by decide) (by decide) (by decide) (by decide) (by decide) (by decide) (by decide) (by decide) (by decide), hm_1067]
  have hm_1153 : M_1108 11 = some (aI G 40 (nF (fun _ => 0))) := by rw [hF_1141 11 (by decide) (by decide) (by decide) (by decide) (by decide) (by decide) (by decide) (by decide) (by decide) (by decide) (by decide) (by decide) (by decide), hm_1068]
  have hm_1154 : M_1108 12 = some (cEnds ad_1111 12 0) := by rw [hF_1141 12 (by decide) (by decide) (by decide) (by decide) (by decide) (by decide) (by decide) (by decide) (by decide) (by decide) (by decide) (by decide) (by decide), hm_1069]; simp only [cEnds, hAd_1140 13 (by decide) (by decide) (by decide) (by decide) (by decide) (by decide) (by decide) (by decide) (by decide) (by decide) (by decide) (by decide), hAd_1140 14 (by decide) (by decide) (by decide) (by decide) (by decide) (by decide) (by decide) (by decide) (by decide) (by decide) (by decide) (by decide), hAd_1140 15 (by decide) (by decide) (by decide) (by decide) (by decide) (by decide) (by decide) (by decide) (by decide) (by decide) (by decide) (by decide)]
  have hm_1155 : M_1108 13 = some (aI G 6 (nF (fun _ => 0))) := by rw [hF_1141 13 (by decide) (by decide) (by decide) (by decide) (by decide) (by decide) (by decide) (by decide) (by decide) (by decide) (by decide) (by decide) (by decide), hm_1070]
  have hm_1156 : M_1108 14 = some (aI G 6 (nF (fun _ => 0))) := by rw [hF_1141 14 (by decide) (by decide) (by decide) (by decide) (by decide) (by decide) (by decide) (by decide) (by decide) (by decide) (by decide) (by decide) (by decide), hm_1071]
  have hm_1157 : M_1108 15 = some (aI G 6 (nF (fun _ => 0))) := by rw [hF_1141 15 (by decide) (by decide) (by decide) (by decide) (by decide) (by decide) (by decide) (by decide) (by decide) (by decide) (by decide) (by decide) (by decide), hm_1072]
  have hm_1158 : M_1108 16 = some (cLines ad_1111 ) := by rw [hF_1141 16 (by decide) (by decide) (by decide) (by decide) (by decide) (by decide) (by decide) (by decide) (by decide) (by decide) (by decide) (by decide) (by decide), hm_1073]; simp only [cLines, hAd_1140 17 (by decide) (by decide) (by decide) (by decide) (by decide) (by decide) (by decide) (by decide) (by decide) (by decide) (by decide) (by decide), hAd_1140 19 (by decide) (by decide) (by decide) (by decide) (by decide) (by decide) (by decide) (by decide) (by decide) (by decide) (by decide) (by decide), hAd_1140 20 (by decide) (by decide) (by decide) (by decide) (by decide) (by decide) (by decide) (by decide) (by decide) (by decide) (by decide) (by decide), hAd_1140 21 (by decide) (by decide) (by decide) (by decide) (by decide) (by decide) (by decide) (by decide) (by decide) (by decide) (by decide) (by decide)]
  have hm_1159 : M_1108 17 = some (cList ad_1111 (nI 0) G.2.2.2.2 0) := by rw [hF_1141 17 (by decide) (by decide) (by decide) (by decide) (by decide) (by decide) (by decide) (by decide) (by decide) (by decide) (by decide) (by decide) (by decide), hm_1074]
  have hm_1160 : M_1108 19 = some (aZ G 120 (bF (fun _ => false))) := by rw [hF_1141 19 (by decide) (by decide) (by decide) (by decide) (by decide) (by decide) (by decide) (by decide) (by decide) (by decide) (by decide) (by decide) (by decide), hm_1075]
  have hm_1161 : M_1108 20 = some (aI G 120 (nF (fun _ => 0))) := by rw [hF_1141 20 (by decide) (by decide) (by decide) (by decide) (by decide) (by decide) (by decide) (by decide) (by decide) (by decide) (by decide) (by decide) (by decide), hm_1076]
  have hm_1162 : M_1108 21 = some (aI G 120 (nF (fun _ => 0))) := by rw [hF_1141 21 (by decide) (by decide) (by decide) (by decide) (by decide) (by decide) (by decide) (by decide) (by decide) (by decide) (by decide) (by decide) (by decide), hm_1077]
  have hm_1163 : M_1108 22 = some (cReader ad_1111 0 0 (nI 0) (nI 0)) := by rw [hF_1141 22 (by decide) (by decide) (by decide) (by decide) (by decide) (by decide) (by decide) (by decide) (by decide) (by decide) (by decide) (by decide) (by decide), hm_1078]
  have fr_1164 : M_1108 30 = none := by rw [hF_1141 30 (by decide) (by decide) (by decide) (by decide) (by decide) (by decide) (by decide) (by decide) (by decide) (by decide) (by decide) (by decide) (by decide)]; exact fr_1091
  have fr_1165 : M_1108 31 = none := by rw [hF_1141 31 (by decide) (by decide) (by decide) (by decide) (by decide) (by decide) (by decide) (by decide) (by decide) (by decide) (by decide) (by decide) (by decide)]; exact fr_1092
  have fr_1166 : M_1108 32 = none := by rw [hF_1141 32 (by decide) (by decide) (by decide) (by decide) (by decide) (by decide) (by decide) (by decide) (by decide) (by decide) (by decide) (by decide) (by decide)]; exact fr_1093
  have fr_1167 : M_1108 33 = none := by rw [hF_1141 33 (by decide) (by decide) (by decide) (by decide) (by decide) (by decide) (by decide) (by decide) (by decide) (by decide) (by decide) (by decide) (by decide)]; exact fr_1094
  have fr_1168 : M_1108 34 = none := by rw [hF_1141 34 (by decide) (by decide) (by decide) (by decide) (by decide) (by decide) (by decide) (by decide) (by decide) (by decide) (by decide) (by decide) (by decide)]; exact fr_1095
  have fr_1169 : M_1108 35 = none := by rw [hF_1141 35 (by decide) (by decide) (by decide) (by decide) (by decide) (by decide) (by decide) (by decide) (by decide) (by decide) (by decide) (by decide) (by decide)]; exact fr_1096
  have fr_1170 : M_1108 36 = none := by rw [hF_1141 36 (by decide) (by decide) (by decide) (by decide) (by decide) (by decide) (by decide) (by decide) (by decide) (by decide) (by decide) (by decide) (by decide)]; exact fr_1097
  have fr_1171 : M_1108 37 = none := by rw [hF_1141 37 (by decide) (by decide) (by decide) (by decide) (by decide) (by decide) (by decide) (by decide) (by decide) (by decide) (by decide) (by decide) (by decide)]; exact fr_1098
  have fr_1172 : M_1108 38 = none := by rw [hF_1141 38 (by decide) (by decide) (by decide) (by decide) (by decide) (by decide) (by decide) (by decide) (by decide) (by decide) (by decide) (by decide) (by decide)]; exact fr_1099
  have fr_1173 : M_1108 39 = none := by rw [hF_1141 39 (by decide) (by decide) (by decide) (by decide) (by decide) (by decide) (by decide) (by decide) (by decide) (by decide) (by decide) (by decide) (by decide)]; exact fr_1100
  have fr_1174 : M_1108 40 = none := by rw [hF_1141 40 (by decide) (by decide) (by decide) (by decide) (by decide) (by decide) (by decide) (by decide) (by decide) (by decide) (by decide) (by decide) (by decide)]; exact fr_1101
  have fr_1175 : M_1108 41 = none := by rw [hF_1141 41 (by decide) (by decide) (by decide) (by decide) (by decide) (by decide) (by decide) (by decide) (by decide) (by decide) (by decide) (by decide) (by decide)]; exact fr_1102
  have fr_1176 : M_1108 42 = none := by rw [hF_1141 42 (by decide) (by decide) (by decide) (by decide) (by decide) (by decide) (by decide) (by decide) (by decide) (by decide) (by decide) (by decide) (by decide)]; exact fr_1103
  have fr_1177 : M_1108 43 = none := by rw [hF_1141 43 (by decide) (by decide) (by decide) (by decide) (by decide) (by decide) (by decide) (by decide) (by decide) (by decide) (by decide) (by decide) (by decide)]; exact fr_1104
  clear hm_1057 hm_1058 hm_1059 hm_1060 hm_1061 hm_1062 hm_1063 hm_1064 hm_1065 hm_1066 hm_1067 hm_1068 hm_1069 hm_1070 hm_1071 hm_1072 hm_1073 hm_1074 hm_1075 hm_1076 hm_1077 hm_1078 fr_1091 fr_1092 fr_1093 fr_1094 fr_1095 fr_1096 fr_1097 fr_1098 fr_1099 fr_1100 fr_1101 fr_1102 fr_1103 fr_1104
  have hF_1178 : ∀ j : Nat, j ≠ 1 → j ≠ 2 → j ≠ 0 → j ≠ 3 → j ≠ 4 → j ≠ 5 → j ≠ 6 → j ≠ 7 → j ≠ 8 → j ≠ 9 → j ≠ 10 → j ≠ 11 → j ≠ 12 → j ≠ 13 → j ≠ 14 → j ≠ 15 → j ≠ 16 → j ≠ 17 → j ≠ 19 → j ≠ 20 → j ≠ 21 → j ≠ 22 → j ≠ 23 → j ≠ 24 → j ≠ 25 → j ≠ 26 → j ≠ 27 → j ≠ 28 → j ≠ 44 → j ≠ 45 → j ≠ 46 → j ≠ 47 → j ≠ 48 → j ≠ 49 → j ≠ 50 → M_1108 j = M j := fun j q0 q1 q2 q3 q4 q5 q6 q7 q8 q9 q10 q11 q12 q13 q14 q15 q16 q17 q18 q19 q20 q21 q22 q23 q24 q25 q26 q27 q28 q29 q30 q31 q32 q33 q34 => (hF_1141 j q22 q23 q24 q25 q26 q27 q28 q29 q30 q31 q32 q33 q34).trans (hF_1105 j q0 q1 q2 q3 q4 q5 q6 q7 q8 q9 q10 q11 q12 q13 q14 q15 q16 q17 q18 q19 q20 q21 q22)
  clear hF_1105 hF_1125
  refine n_eqs (show ([.ref (ad_1049 23), .ref (ad_1049 0)] : List Value) = [.ref (ad_1111 23), .ref (ad_1111 0)] from by rw [hAd_1140 23 (by decide) (by decide) (by decide) (by decide) (by decide) (by decide) (by decide) (by decide) (by decide) (by decide) (by decide) (by decide), hAd_1140 0 (by decide) (by decide) (by decide) (by decide) (by decide) (by decide) (by decide) (by decide) (by decide) (by decide) (by decide) (by decide)]) ?_
  refine h_putF (C := RX9) (T := TX9) (N := 10) hx hb hts i_RX9 tyX9 tyX9_ok nmX9 hown hI hm_1142 rfl 6 (by decide) f_54 rfl rfl hini rfl rfl rfl (Nat.le_of_ble_eq_true rfl) dX9_init_78 (fun M_1179 H_1180 locs_1181 eM_1182 hI => ?_)
  have hm_1183 : M_1179 0 = some (.inr (10, [.ref (ad_1111 1), .ref (ad_1111 3), .ref (ad_1111 8), .ref (ad_1111 12), .ref (ad_1111 16), .ref (ad_1111 22), .ref (ad_1111 23), .null, .null, .int (nI 0)])) := by rw [eM_1182]; exact va_up_self _ _ _
  have hm_1184 : M_1179 1 = some (cTape ad_1111 0) := by rw [eM_1182, va_up_ne _ _ (by decide)]; exact hm_1143
  have hm_1185 : M_1179 2 = some (aI G 400 (nF (fun _ => 0))) := by rw [eM_1182, va_up_ne _ _ (by decide)]; exact hm_1144
  have hm_1186 : M_1179 3 = some (cLaws ad_1111 ) := by rw [eM_1182, va_up_ne _ _ (by decide)]; exact hm_1145
  have hm_1187 : M_1179 4 = some (aI G 36 (nF (fun _ => 0))) := by rw [eM_1182, va_up_ne _ _ (by decide)]; exact hm_1146
  have hm_1188 : M_1179 5 = some (aI G 36 (nF mo_245)) := by rw [eM_1182, va_up_ne _ _ (by decide)]; exact hm_1147
  have hm_1189 : M_1179 6 = some (aI G 36 (nF (fun _ => 0))) := by rw [eM_1182, va_up_ne _ _ (by decide)]; exact hm_1148
  have hm_1190 : M_1179 7 = some (aZ G 6 (bF ho_246)) := by rw [eM_1182, va_up_ne _ _ (by decide)]; exact hm_1149
  have hm_1191 : M_1179 8 = some (cOnes ad_1111 0) := by rw [eM_1182, va_up_ne _ _ (by decide)]; exact hm_1150
  have hm_1192 : M_1179 9 = some (aI G 40 (nF hg_423)) := by rw [eM_1182, va_up_ne _ _ (by decide)]; exact hm_1151
  have hm_1193 : M_1179 10 = some (aI G 40 (nF lst_424)) := by rw [eM_1182, va_up_ne _ _ (by decide)]; exact hm_1152
  have hm_1194 : M_1179 11 = some (aI G 40 (nF (fun _ => 0))) := by rw [eM_1182, va_up_ne _ _ (by decide)]; exact hm_1153
  have hm_1195 : M_1179 12 = some (cEnds ad_1111 12 0) := by rw [eM_1182, va_up_ne _ _ (by decide)]; exact hm_1154
  have hm_1196 : M_1179 13 = some (aI G 6 (nF (fun _ => 0))) := by rw [eM_1182, va_up_ne _ _ (by decide)]; exact hm_1155
  have hm_1197 : M_1179 14 = some (aI G 6 (nF (fun _ => 0))) := by rw [eM_1182, va_up_ne _ _ (by decide)]; exact hm_1156
  have hm_1198 : M_1179 15 = some (aI G 6 (nF (fun _ => 0))) := by rw [eM_1182, va_up_ne _ _ (by decide)]; exact hm_1157
  have hm_1199 : M_1179 16 = some (cLines ad_1111 ) := by rw [eM_1182, va_up_ne _ _ (by decide)]; exact hm_1158
  have hm_1200 : M_1179 17 = some (cList ad_1111 (nI 0) G.2.2.2.2 0) := by rw [eM_1182, va_up_ne _ _ (by decide)]; exact hm_1159
  have hm_1201 : M_1179 19 = some (aZ G 120 (bF (fun _ => false))) := by rw [eM_1182, va_up_ne _ _ (by decide)]; exact hm_1160
  have hm_1202 : M_1179 20 = some (aI G 120 (nF (fun _ => 0))) := by rw [eM_1182, va_up_ne _ _ (by decide)]; exact hm_1161
  have hm_1203 : M_1179 21 = some (aI G 120 (nF (fun _ => 0))) := by rw [eM_1182, va_up_ne _ _ (by decide)]; exact hm_1162
  have hm_1204 : M_1179 22 = some (cReader ad_1111 0 0 (nI 0) (nI 0)) := by rw [eM_1182, va_up_ne _ _ (by decide)]; exact hm_1163
  have hm_1205 : M_1179 23 = some (cMatcher ad_1111 44 0) := by rw [eM_1182, va_up_ne _ _ (by decide)]; exact hm_1127
  have hm_1206 : M_1179 24 = some (aJ G 2160 (fun _ => 0)) := by rw [eM_1182, va_up_ne _ _ (by decide)]; exact hm_1128
  have hm_1207 : M_1179 25 = some (aI G 6 (nF (fun _ => 0))) := by rw [eM_1182, va_up_ne _ _ (by decide)]; exact hm_1129
  have hm_1208 : M_1179 26 = some (aJ G 240 (fun _ => 0)) := by rw [eM_1182, va_up_ne _ _ (by decide)]; exact hm_1130
  have hm_1209 : M_1179 27 = some (aJ G 3 (fun _ => 0)) := by rw [eM_1182, va_up_ne _ _ (by decide)]; exact hm_1131
  have hm_1210 : M_1179 28 = some (aI G 3 (nF (fun _ => 0))) := by rw [eM_1182, va_up_ne _ _ (by decide)]; exact hm_1132
  have hm_1211 : M_1179 44 = some (cQuestion ad_1111 44 0 0) := by rw [eM_1182, va_up_ne _ _ (by decide)]; exact hm_1133
  have hm_1212 : M_1179 45 = some (aI G 6 (nF (fun _ => 0))) := by rw [eM_1182, va_up_ne _ _ (by decide)]; exact hm_1134
  have hm_1213 : M_1179 46 = some (aZ G 6 (bF (fun _ => false))) := by rw [eM_1182, va_up_ne _ _ (by decide)]; exact hm_1135
  have hm_1214 : M_1179 47 = some (aI G 6 (nF (fun _ => 0))) := by rw [eM_1182, va_up_ne _ _ (by decide)]; exact hm_1136
  have hm_1215 : M_1179 48 = some (aI G 6 (nF (fun _ => 0))) := by rw [eM_1182, va_up_ne _ _ (by decide)]; exact hm_1137
  have hm_1216 : M_1179 49 = some (aI G 24 (nF (fun _ => 0))) := by rw [eM_1182, va_up_ne _ _ (by decide)]; exact hm_1138
  have hm_1217 : M_1179 50 = some (aI G 24 (nF (fun _ => 0))) := by rw [eM_1182, va_up_ne _ _ (by decide)]; exact hm_1139
  have fr_1218 : M_1179 30 = none := by rw [eM_1182, va_up_ne _ _ (by decide)]; exact fr_1164
  have fr_1219 : M_1179 31 = none := by rw [eM_1182, va_up_ne _ _ (by decide)]; exact fr_1165
  have fr_1220 : M_1179 32 = none := by rw [eM_1182, va_up_ne _ _ (by decide)]; exact fr_1166
  have fr_1221 : M_1179 33 = none := by rw [eM_1182, va_up_ne _ _ (by decide)]; exact fr_1167
  have fr_1222 : M_1179 34 = none := by rw [eM_1182, va_up_ne _ _ (by decide)]; exact fr_1168
  have fr_1223 : M_1179 35 = none := by rw [eM_1182, va_up_ne _ _ (by decide)]; exact fr_1169
  have fr_1224 : M_1179 36 = none := by rw [eM_1182, va_up_ne _ _ (by decide)]; exact fr_1170
  have fr_1225 : M_1179 37 = none := by rw [eM_1182, va_up_ne _ _ (by decide)]; exact fr_1171
  have fr_1226 : M_1179 38 = none := by rw [eM_1182, va_up_ne _ _ (by decide)]; exact fr_1172
  have fr_1227 : M_1179 39 = none := by rw [eM_1182, va_up_ne _ _ (by decide)]; exact fr_1173
  have fr_1228 : M_1179 40 = none := by rw [eM_1182, va_up_ne _ _ (by decide)]; exact fr_1174
  have fr_1229 : M_1179 41 = none := by rw [eM_1182, va_up_ne _ _ (by decide)]; exact fr_1175
  have fr_1230 : M_1179 42 = none := by rw [eM_1182, va_up_ne _ _ (by decide)]; exact fr_1176
  have fr_1231 : M_1179 43 = none := by rw [eM_1182, va_up_ne _ _ (by decide)]; exact fr_1177
  have hF_1232 : ∀ j : Nat, j ≠ 1 → j ≠ 2 → j ≠ 0 → j ≠ 3 → j ≠ 4 → j ≠ 5 → j ≠ 6 → j ≠ 7 → j ≠ 8 → j ≠ 9 → j ≠ 10 → j ≠ 11 → j ≠ 12 → j ≠ 13 → j ≠ 14 → j ≠ 15 → j ≠ 16 → j ≠ 17 → j ≠ 19 → j ≠ 20 → j ≠ 21 → j ≠ 22 → j ≠ 23 → j ≠ 24 → j ≠ 25 → j ≠ 26 → j ≠ 27 → j ≠ 28 → j ≠ 44 → j ≠ 45 → j ≠ 46 → j ≠ 47 → j ≠ 48 → j ≠ 49 → j ≠ 50 → M_1179 j = M j := fun j q0 q1 q2 q3 q4 q5 q6 q7 q8 q9 q10 q11 q12 q13 q14 q15 q16 q17 q18 q19 q20 q21 q22 q23 q24 q25 q26 q27 q28 q29 q30 q31 q32 q33 q34 => by rw [eM_1182, va_up_ne _ _ q2]; exact hF_1178 j q0 q1 q2 q3 q4 q5 q6 q7 q8 q9 q10 q11 q12 q13 q14 q15 q16 q17 q18 q19 q20 q21 q22 q23 q24 q25 q26 q27 q28 q29 q30 q31 q32 q33 q34
  clear hm_1142 hm_1143 hm_1144 hm_1145 hm_1146 hm_1147 hm_1148 hm_1149 hm_1150 hm_1151 hm_1152 hm_1153 hm_1154 hm_1155 hm_1156 hm_1157 hm_1158 hm_1159 hm_1160 hm_1161 hm_1162 hm_1163 hm_1127 hm_1128 hm_1129 hm_1130 hm_1131 hm_1132 hm_1133 hm_1134 hm_1135 hm_1136 hm_1137 hm_1138 hm_1139 fr_1164 fr_1165 fr_1166 fr_1167 fr_1168 fr_1169 fr_1170 fr_1171 fr_1172 fr_1173 fr_1174 fr_1175 fr_1176 fr_1177 hF_1178
  refine lv_aload_n hx hb dX9_init_81 rfl (lv_at hl 0 rfl) ?_
  refine n_eqv (show Value.ref (ad 0) = .ref (ad_1111 0) from by rw [hAd_1140 0 (by decide) (by decide) (by decide) (by decide) (by decide) (by decide) (by decide) (by decide) (by decide) (by decide) (by decide) (by decide), hAd_1055 0 (by decide), hAd_888 0 (by decide), hAd_781 0 (by decide) (by decide) (by decide) (by decide), hAd_712 0 (by decide), hAd_604 0 (by decide) (by decide) (by decide), hAd_537 0 (by decide), hAd_429 0 (by decide) (by decide) (by decide), hAd_359 0 (by decide), hAd_252 0 (by decide) (by decide) (by decide) (by decide), hAd_180 0 (by decide), hAd_70 0 (by decide), hAd_7 0 (by decide)]) ?_
  refine h_new (C := RX6) (T := TX6) (N := 8) (ci := 7) (fs := [.null, .null, .null, .null, .null, .null, .int (nI 0), .int (nI 0)]) hx hb hts i_RX6 tyX6 tyX6_ok hown nw_c58 nw_i58 nw_n58 hI rfl (fun j hj => match j, hj with | 0, _ => rfl | 1, _ => rfl | 2, _ => rfl | 3, _ => rfl | 4, _ => rfl | 5, _ => rfl | 6, _ => rfl | 7, _ => rfl | n + 8, h => absurd h (by omega)) (Nat.le_of_ble_eq_true rfl) (Nat.le_of_ble_eq_true rfl) dX9_init_82 30 fr_1218 (fun ad_1233 M_1234 H_1235 hA_1236 eM_1237 hI => ?_)
  have hAd_1239 : ∀ j : Nat, j ≠ 30 → ad_1233 j = ad_1111 j := fun j hj => by obtain ⟨q, e⟩ := hA_1236; rw [e]; exact va_up_ne _ _ hj
  have hm_1240 : M_1234 30 = some (.inr (7, [.null, .null, .null, .null, .null, .null, .int (nI 0), .int (nI 0)])) := by rw [eM_1237]; exact va_up_self _ _ _
  have hm_1241 : M_1234 0 = some (.inr (10, [.ref (ad_1233 1), .ref (ad_1233 3), .ref (ad_1233 8), .ref (ad_1233 12), .ref (ad_1233 16), .ref (ad_1233 22), .ref (ad_1233 23), .null, .null, .int (nI 0)])) := by rw [eM_1237, va_up_ne _ _ (by decide), hm_1183]; rw [hAd_1239 1 (by decide), hAd_1239 3 (by decide), hAd_1239 8 (by decide), hAd_1239 12 (by decide), hAd_1239 16 (by decide), hAd_1239 22 (by decide), hAd_1239 23 (by decide)]
  have hm_1242 : M_1234 1 = some (cTape ad_1233 0) := by rw [eM_1237, va_up_ne _ _ (by decide), hm_1184]; simp only [cTape, hAd_1239 2 (by decide)]
  have hm_1243 : M_1234 2 = some (aI G 400 (nF (fun _ => 0))) := by rw [eM_1237, va_up_ne _ _ (by decide), hm_1185]
  have hm_1244 : M_1234 3 = some (cLaws ad_1233 ) := by rw [eM_1237, va_up_ne _ _ (by decide), hm_1186]; simp only [cLaws, hAd_1239 4 (by decide), hAd_1239 5 (by decide), hAd_1239 6 (by decide), hAd_1239 7 (by decide)]
  have hm_1245 : M_1234 4 = some (aI G 36 (nF (fun _ => 0))) := by rw [eM_1237, va_up_ne _ _ (by decide), hm_1187]
  have hm_1246 : M_1234 5 = some (aI G 36 (nF mo_245)) := by rw [eM_1237, va_up_ne _ _ (by decide), hm_1188]
  have hm_1247 : M_1234 6 = some (aI G 36 (nF (fun _ => 0))) := by rw [eM_1237, va_up_ne _ _ (by decide), hm_1189]
  have hm_1248 : M_1234 7 = some (aZ G 6 (bF ho_246)) := by rw [eM_1237, va_up_ne _ _ (by decide), hm_1190]
  have hm_1249 : M_1234 8 = some (cOnes ad_1233 0) := by rw [eM_1237, va_up_ne _ _ (by decide), hm_1191]; simp only [cOnes, hAd_1239 9 (by decide), hAd_1239 10 (by decide), hAd_1239 11 (by decide)]
  have hm_1250 : M_1234 9 = some (aI G 40 (nF hg_423)) := by rw [eM_1237, va_up_ne _ _ (by decide), hm_1192]
  have hm_1251 : M_1234 10 = some (aI G 40 (nF lst_424)) := by rw [eM_1237, va_up_ne _ _ (by decide), hm_1193]
  have hm_1252 : M_1234 11 = some (aI G 40 (nF (fun _ => 0))) := by rw [eM_1237, va_up_ne _ _ (by decide), hm_1194]
  have hm_1253 : M_1234 12 = some (cEnds ad_1233 12 0) := by rw [eM_1237, va_up_ne _ _ (by decide), hm_1195]; simp only [cEnds, hAd_1239 13 (by decide), hAd_1239 14 (by decide), hAd_1239 15 (by decide)]
  have hm_1254 : M_1234 13 = some (aI G 6 (nF (fun _ => 0))) := by rw [eM_1237, va_up_ne _ _ (by decide), hm_1196]
  have hm_1255 : M_1234 14 = some (aI G 6 (nF (fun _ => 0))) := by rw [eM_1237, va_up_ne _ _ (by decide), hm_1197]
  have hm_1256 : M_1234 15 = some (aI G 6 (nF (fun _ => 0))) := by rw [eM_1237, va_up_ne _ _ (by decide), hm_1198]
  have hm_1257 : M_1234 16 = some (cLines ad_1233 ) := by rw [eM_1237, va_up_ne _ _ (by decide), hm_1199]; simp only [cLines, hAd_1239 17 (by decide), hAd_1239 19 (by decide), hAd_1239 20 (by decide), hAd_1239 21 (by decide)]
  have hm_1258 : M_1234 17 = some (cList ad_1233 (nI 0) G.2.2.2.2 0) := by rw [eM_1237, va_up_ne _ _ (by decide), hm_1200]
  have hm_1259 : M_1234 19 = some (aZ G 120 (bF (fun _ => false))) := by rw [eM_1237, va_up_ne _ _ (by decide), hm_1201]
  have hm_1260 : M_1234 20 = some (aI G 120 (nF (fun _ => 0))) := by rw [eM_1237, va_up_ne _ _ (by decide), hm_1202]
  have hm_1261 : M_1234 21 = some (aI G 120 (nF (fun _ => 0))) := by rw [eM_1237, va_up_ne _ _ (by decide), hm_1203]
  have hm_1262 : M_1234 22 = some (cReader ad_1233 0 0 (nI 0) (nI 0)) := by rw [eM_1237, va_up_ne _ _ (by decide), hm_1204]
  have hm_1263 : M_1234 23 = some (cMatcher ad_1233 44 0) := by rw [eM_1237, va_up_ne _ _ (by decide), hm_1205]; simp only [cMatcher, hAd_1239 24 (by decide), hAd_1239 25 (by decide), hAd_1239 26 (by decide), hAd_1239 27 (by decide), hAd_1239 28 (by decide), hAd_1239 44 (by decide)]
  have hm_1264 : M_1234 24 = some (aJ G 2160 (fun _ => 0)) := by rw [eM_1237, va_up_ne _ _ (by decide), hm_1206]
  have hm_1265 : M_1234 25 = some (aI G 6 (nF (fun _ => 0))) := by rw [eM_1237, va_up_ne _ _ (by decide), hm_1207]
  have hm_1266 : M_1234 26 = some (aJ G 240 (fun _ => 0)) := by rw [eM_1237, va_up_ne _ _ (by decide), hm_1208]
  have hm_1267 : M_1234 27 = some (aJ G 3 (fun _ => 0)) := by rw [eM_1237, va_up_ne _ _ (by decide), hm_1209]
  have hm_1268 : M_1234 28 = some (aI G 3 (nF (fun _ => 0))) := by rw [eM_1237, va_up_ne _ _ (by decide), hm_1210]
  have hm_1269 : M_1234 44 = some (cQuestion ad_1233 44 0 0) := by rw [eM_1237, va_up_ne _ _ (by decide), hm_1211]; simp only [cQuestion, hAd_1239 45 (by decide), hAd_1239 46 (by decide), hAd_1239 47 (by decide), hAd_1239 48 (by decide), hAd_1239 49 (by decide), hAd_1239 50 (by decide)]
  have hm_1270 : M_1234 45 = some (aI G 6 (nF (fun _ => 0))) := by rw [eM_1237, va_up_ne _ _ (by decide), hm_1212]
  have hm_1271 : M_1234 46 = some (aZ G 6 (bF (fun _ => false))) := by rw [eM_1237, va_up_ne _ _ (by decide), hm_1213]
  have hm_1272 : M_1234 47 = some (aI G 6 (nF (fun _ => 0))) := by rw [eM_1237, va_up_ne _ _ (by decide), hm_1214]
  have hm_1273 : M_1234 48 = some (aI G 6 (nF (fun _ => 0))) := by rw [eM_1237, va_up_ne _ _ (by decide), hm_1215]
  have hm_1274 : M_1234 49 = some (aI G 24 (nF (fun _ => 0))) := by rw [eM_1237, va_up_ne _ _ (by decide), hm_1216]
  have hm_1275 : M_1234 50 = some (aI G 24 (nF (fun _ => 0))) := by rw [eM_1237, va_up_ne _ _ (by decide), hm_1217]
  have fr_1276 : M_1234 31 = none := by rw [eM_1237, va_up_ne _ _ (by decide)]; exact fr_1219
  have fr_1277 : M_1234 32 = none := by rw [eM_1237, va_up_ne _ _ (by decide)]; exact fr_1220
  have fr_1278 : M_1234 33 = none := by rw [eM_1237, va_up_ne _ _ (by decide)]; exact fr_1221
  have fr_1279 : M_1234 34 = none := by rw [eM_1237, va_up_ne _ _ (by decide)]; exact fr_1222
  have fr_1280 : M_1234 35 = none := by rw [eM_1237, va_up_ne _ _ (by decide)]; exact fr_1223
  have fr_1281 : M_1234 36 = none := by rw [eM_1237, va_up_ne _ _ (by decide)]; exact fr_1224
  have fr_1282 : M_1234 37 = none := by rw [eM_1237, va_up_ne _ _ (by decide)]; exact fr_1225
  have fr_1283 : M_1234 38 = none := by rw [eM_1237, va_up_ne _ _ (by decide)]; exact fr_1226
  have fr_1284 : M_1234 39 = none := by rw [eM_1237, va_up_ne _ _ (by decide)]; exact fr_1227
  have fr_1285 : M_1234 40 = none := by rw [eM_1237, va_up_ne _ _ (by decide)]; exact fr_1228
  have fr_1286 : M_1234 41 = none := by rw [eM_1237, va_up_ne _ _ (by decide)]; exact fr_1229
  have fr_1287 : M_1234 42 = none := by rw [eM_1237, va_up_ne _ _ (by decide)]; exact fr_1230
  have fr_1288 : M_1234 43 = none := by rw [eM_1237, va_up_ne _ _ (by decide)]; exact fr_1231
  clear hm_1183 hm_1184 hm_1185 hm_1186 hm_1187 hm_1188 hm_1189 hm_1190 hm_1191 hm_1192 hm_1193 hm_1194 hm_1195 hm_1196 hm_1197 hm_1198 hm_1199 hm_1200 hm_1201 hm_1202 hm_1203 hm_1204 hm_1205 hm_1206 hm_1207 hm_1208 hm_1209 hm_1210 hm_1211 hm_1212 hm_1213 hm_1214 hm_1215 hm_1216 hm_1217 fr_1219 fr_1220 fr_1221 fr_1222 fr_1223 fr_1224 fr_1225 fr_1226 fr_1227 fr_1228 fr_1229 fr_1230 fr_1231
  have hF_1289 : ∀ j : Nat, j ≠ 1 → j ≠ 2 → j ≠ 0 → j ≠ 3 → j ≠ 4 → j ≠ 5 → j ≠ 6 → j ≠ 7 → j ≠ 8 → j ≠ 9 → j ≠ 10 → j ≠ 11 → j ≠ 12 → j ≠ 13 → j ≠ 14 → j ≠ 15 → j ≠ 16 → j ≠ 17 → j ≠ 19 → j ≠ 20 → j ≠ 21 → j ≠ 22 → j ≠ 23 → j ≠ 24 → j ≠ 25 → j ≠ 26 → j ≠ 27 → j ≠ 28 → j ≠ 44 → j ≠ 45 → j ≠ 46 → j ≠ 47 → j ≠ 48 → j ≠ 49 → j ≠ 50 → j ≠ 30 → M_1234 j = M j := fun j q0 q1 q2 q3 q4 q5 q6 q7 q8 q9 q10 q11 q12 q13 q14 q15 q16 q17 q18 q19 q20 q21 q22 q23 q24 q25 q26 q27 q28 q29 q30 q31 q32 q33 q34 q35 => by rw [eM_1237, va_up_ne _ _ q35]; exact hF_1232 j q0 q1 q2 q3 q4 q5 q6 q7 q8 q9 q10 q11 q12 q13 q14 q15 q16 q17 q18 q19 q20 q21 q22 q23 q24 q25 q26 q27 q28 q29 q30 q31 q32 q33 q34
  clear hF_1232
  refine n_eqs (show ([.ref (ad_1233 30), .ref (ad_1111 0)] : List Value) = [.ref (ad_1233 30), .ref (ad_1233 0)] from by rw [hAd_1239 0 (by decide)]) ?_
  refine lv_dup hx hb dX9_init_85 rfl ?_
  refine k_Av (va_runIN (As := []) (rest := [.ref (ad_1233 30), .ref (ad_1233 0)]) ⟨hx, hb, hml, hown, hts⟩ (c_X6_init l G z ad_1233 M_1234 (k := 30) hm_1240 fr_1276 fr_1277 fr_1278 fr_1279 fr_1280 fr_1281) ⟨va_cnB 0 hts (gU (lwg_of t_187 rfl)) rfl rfl rfl (nwm_at (i := 5) (q := ("LineStore", 60, ⟨"LineStore$Question", "<init>", "()V"⟩, "LineStore")) hI rfl) sp_60 (by decide +kernel) ⟨Nat.le_of_ble_eq_true rfl, Nat.le_of_ble_eq_true rfl⟩, rfl, in_60⟩ hI.preS rfl rfl hl.1 rfl (lv_room (Nat.le_of_ble_eq_true rfl)) dX9_init_86 ⟨Nat.le_of_ble_eq_true rfl, Nat.le_of_ble_eq_true rfl⟩) hI (fun ad_1295 M_1292 H_1293 locs_1294 hp_1291 hI => ?_)
  obtain ⟨hm_1296, hm_1297, hm_1298, hm_1299, hm_1300, hm_1301, hm_1302, hF_1303, hAd_1304⟩ := hp_1291
  have hm_1305 : M_1292 30 = some (cQuestion ad_1295 30 0 0) := hm_1296
  have hm_1306 : M_1292 31 = some (aI G 6 (nF (fun _ => 0))) := hm_1297
  have hm_1307 : M_1292 32 = some (aZ G 6 (bF (fun _ => false))) := hm_1298
  have hm_1308 : M_1292 33 = some (aI G 6 (nF (fun _ => 0))) := hm_1299
  have hm_1309 : M_1292 34 = some (aI G 6 (nF (fun _ => 0))) := hm_1300
  have hm_1310 : M_1292 35 = some (aI G 24 (nF (fun _ => 0))) := hm_1301
  have hm_1311 : M_1292 36 = some (aI G 24 (nF (fun _ => 0))) := hm_1302
  have hAd_1312 : ∀ j : Nat, j ≠ 31 → j ≠ 32 → j ≠ 33 → j ≠ 34 → j ≠ 35 → j ≠ 36 → ad_1295 j = ad_1233 j := hAd_1304
  have hF_1313 : ∀ j : Nat, j ≠ 30 → j ≠ 31 → j ≠ 32 → j ≠ 33 → j ≠ 34 → j ≠ 35 → j ≠ 36 → M_1292 j = M_1234 j := hF_1303
  have hm_1314 : M_1292 0 = some (.inr (10, [.ref (ad_1295 1), .ref (ad_1295 3), .ref (ad_1295 8), .ref (ad_1295 12), .ref (ad_1295 16), .ref (ad_1295 22), .ref (ad_1295 23), .null, .null, .int (nI 0)])) := by rw [hF_1313 0 (by decide) (by decide) (by decide) (by decide) (by decide) (by decide) (by decide), hm_1241]; rw [hAd_1312 1 (by decide) (by decide) (by decide) (by decide) (by decide) (by decide), hAd_1312 3 (by decide) (by decide) (by decide) (by decide) (by decide) (by decide), hAd_1312 8 (by decide) (by decide) (by decide) (by decide) (by decide) (by decide), hAd_1312 12 (by decide) (by decide) (by decide) (by decide) (by decide) (by decide), hAd_1312 16 (by decide) (by decide) (by decide) (by decide) (by decide) (by decide), hAd_1312 22 (by decide) (by decide) (by decide) (by decide) (by decide) (by decide), hAd_1312 23 (by decide) (by decide) (by decide) (by decide) (by decide) (by decide)]
  have hm_1315 : M_1292 1 = some (cTape ad_1295 0) := by rw [hF_1313 1 (by decide) (by decide) (by decide) (by decide) (by decide) (by decide) (by decide), hm_1242]; simp only [cTape, hAd_1312 2 (by decide) (by decide) (by decide) (by decide) (by decide) (by decide)]
  have hm_1316 : M_1292 2 = some (aI G 400 (nF (fun _ => 0))) := by rw [hF_1313 2 (by decide) (by decide) (by decide) (by decide) (by decide) (by decide) (by decide), hm_1243]
  have hm_1317 : M_1292 3 = some (cLaws ad_1295 ) := by rw [hF_1313 3 (by decide) (by decide) (by decide) (by decide) (by decide) (by decide) (by decide), hm_1244]; simp only [cLaws, hAd_1312 4 (by decide) (by decide) (by decide) (by decide) (by decide) (by decide), hAd_1312 5 (by decide) (by decide) (by decide) (by decide) (by decide) (by decide), hAd_1312 6 (by decide) (by decide) (by decide) (by decide) (by decide) (by decide), hAd_1312 7 (by decide) (by decide) (by decide) (by decide) (by decide) (by decide)]
  have hm_1318 : M_1292 4 = some (aI G 36 (nF (fun _ => 0))) := by rw [hF_1313 4 (by decide) (by decide) (by decide) (by decide) (by decide) (by decide) (by decide), hm_1245]
  have hm_1319 : M_1292 5 = some (aI G 36 (nF mo_245)) := by rw [hF_1313 5 (by decide) (by decide) (by decide) (by decide) (by decide) (by decide) (by decide), hm_1246]
  have hm_1320 : M_1292 6 = some (aI G 36 (nF (fun _ => 0))) := by rw [hF_1313 6 (by decide) (by decide) (by decide) (by decide) (by decide) (by decide) (by decide), hm_1247]
  have hm_1321 : M_1292 7 = some (aZ G 6 (bF ho_246)) := by rw [hF_1313 7 (by decide) (by decide) (by decide) (by decide) (by decide) (by decide) (by decide), hm_1248]
  have hm_1322 : M_1292 8 = some (cOnes ad_1295 0) := by rw [hF_1313 8 (by decide) (by decide) (by decide) (by decide) (by decide) (by decide) (by decide), hm_1249]; simp only [cOnes, hAd_1312 9 (by decide) (by decide) (by decide) (by decide) (by decide) (by decide), hAd_1312 10 (by decide) (by decide) (by decide) (by decide) (by decide) (by decide), hAd_1312 11 (by decide) (by decide) (by decide) (by decide) (by decide) (by decide)]
  have hm_1323 : M_1292 9 = some (aI G 40 (nF hg_423)) := by rw [hF_1313 9 (by decide) (by decide) (by decide) (by decide) (by decide) (by decide) (by decide), hm_1250]
  have hm_1324 : M_1292 10 = some (aI G 40 (nF lst_424)) := by rw [hF_1313 10 (by decide) (by decide) (by decide) (by decide) (by decide) (by decide) (by decide), hm_1251]
  have hm_1325 : M_1292 11 = some (aI G 40 (nF (fun _ => 0))) := by rw [hF_1313 11 (by decide) (by decide) (by decide) (by decide) (by decide) (by decide) (by decide), hm_1252]
  have hm_1326 : M_1292 12 = some (cEnds ad_1295 12 0) := by rw [hF_1313 12 (by decide) (by decide) (by decide) (by decide) (by decide) (by decide) (by decide), hm_1253]; simp only [cEnds, hAd_1312 13 (by decide) (by decide) (by decide) (by decide) (by decide) (by decide), hAd_1312 14 (by decide) (by decide) (by decide) (by decide) (by decide) (by decide), hAd_1312 15 (by decide) (by decide) (by decide) (by decide) (by decide) (by decide)]
  have hm_1327 : M_1292 13 = some (aI G 6 (nF (fun _ => 0))) := by rw [hF_1313 13 (by decide) (by decide) (by decide) (by decide) (by decide) (by decide) (by decide), hm_1254]
  have hm_1328 : M_1292 14 = some (aI G 6 (nF (fun _ => 0))) := by rw [hF_1313 14 (by decide) (by decide) (by decide) (by decide) (by decide) (by decide) (by decide), hm_1255]
  have hm_1329 : M_1292 15 = some (aI G 6 (nF (fun _ => 0))) := by rw [hF_1313 15 (by decide) (by decide) (by decide) (by decide) (by decide) (by decide) (by decide), hm_1256]
  have hm_1330 : M_1292 16 = some (cLines ad_1295 ) := by rw [hF_1313 16 (by decide) (by decide) (by decide) (by decide) (by decide) (by decide) (by decide), hm_1257]; simp only [cLines, hAd_1312 17 (by decide) (by decide) (by decide) (by decide) (by decide) (by decide), hAd_1312 19 (by decide) (by decide) (by decide) (by decide) (by decide) (by decide), hAd_1312 20 (by decide) (by decide) (by decide) (by decide) (by decide) (by decide), hAd_1312 21 (by decide) (by decide) (by decide) (by decide) (by decide) (by decide)]
  have hm_1331 : M_1292 17 = some (cList ad_1295 (nI 0) G.2.2.2.2 0) := by rw [hF_1313 17 (by decide) (by decide) (by decide) (by decide) (by decide) (by decide) (by decide), hm_1258]
  have hm_1332 : M_1292 19 = some (aZ G 120 (bF (fun _ => false))) := by rw [hF_1313 19 (by decide) (by decide) (by decide) (by decide) (by decide) (by decide) (by decide), hm_1259]
  have hm_1333 : M_1292 20 = some (aI G 120 (nF (fun _ => 0))) := by rw [hF_1313 20 (by decide) (by decide) (by decide) (by decide) (by decide) (by decide) (by decide), hm_1260]
  have hm_1334 : M_1292 21 = some (aI G 120 (nF (fun _ => 0))) := by rw [hF_1313 21 (by decide) (by decide) (by decide) (by decide) (by decide) (by decide) (by decide), hm_1261]
  have hm_1335 : M_1292 22 = some (cReader ad_1295 0 0 (nI 0) (nI 0)) := by rw [hF_1313 22 (by decide) (by decide) (by decide) (by decide) (by decide) (by decide) (by decide), hm_1262]
  have hm_1336 : M_1292 23 = some (cMatcher ad_1295 44 0) := by rw [hF_1313 23 (by decide) (by decide) (by decide) (by decide) (by decide) (by decide) (by decide), hm_1263]; simp only [cMatcher, hAd_1312 24 (by decide) (by decide) (by decide) (by decide) (by decide) (by decide), hAd_1312 25 (by decide) (by decide) (by decide) (by decide) (by decide) (by decide), hAd_1312 26 (by decide) (by decide) (by decide) (by decide) (by decide) (by decide), hAd_1312 27 (by decide) (by decide) (by decide) (by decide) (by decide) (by decide), hAd_1312 28 (by decide) (by decide) (by decide) (by decide) (by decide) (by decide), hAd_1312 44 (by decide) (by decide) (by decide) (by decide) (by decide) (by decide)]
  have hm_1337 : M_1292 24 = some (aJ G 2160 (fun _ => 0)) := by rw [hF_1313 24 (by decide) (by decide) (by decide) (by decide) (by decide) (by decide) (by decide), hm_1264]
  have hm_1338 : M_1292 25 = some (aI G 6 (nF (fun _ => 0))) := by rw [hF_1313 25 (by decide) (by decide) (by decide) (by decide) (by decide) (by decide) (by decide), hm_1265]
  have hm_1339 : M_1292 26 = some (aJ G 240 (fun _ => 0)) := by rw [hF_1313 26 (by decide) (by decide) (by decide) (by decide) (by decide) (by decide) (by decide), hm_1266]
  have hm_1340 : M_1292 27 = some (aJ G 3 (fun _ => 0)) := by rw [hF_1313 27 (by decide) (by decide) (by decide) (by decide) (by decide) (by decide) (by decide), hm_1267]
  have hm_1341 : M_1292 28 = some (aI G 3 (nF (fun _ => 0))) := by rw [hF_1313 28 (by decide) (by decide) (by decide) (by decide) (by decide) (by decide) (by decide), hm_1268]
  have hm_1342 : M_1292 44 = some (cQuestion ad_1295 44 0 0) := by rw [hF_1313 44 (by decide) (by decide) (by decide) (by decide) (by decide) (by decide) (by decide), hm_1269]; simp only [cQuestion, hAd_1312 45 (by decide) (by decide) (by decide) (by decide) (by decide) (by decide), hAd_1312 46 (by decide) (by decide) (by decide) (by decide) (by decide) (by decide), hAd_1312 47 (by decide) (by decide) (by decide) (by decide) (by decide) (by decide), hAd_1312 48 (by decide) (by decide) (by decide) (by decide) (by decide) (by decide), hAd_1312 49 (by decide) (by decide) (by decide) (by decide) (by decide) (by decide), hAd_1312 50 (by decide) (by decide) (by decide) (by decide) (by decide) (by decide)]
  have hm_1343 : M_1292 45 = some (aI G 6 (nF (fun _ => 0))) := by rw [hF_1313 45 (by decide) (by decide) (by decide) (by decide) (by decide) (by decide) (by decide), hm_1270]
  have hm_1344 : M_1292 46 = some (aZ G 6 (bF (fun _ => false))) := by rw [hF_1313 46 (by decide) (by decide) (by decide) (by decide) (by decide) (by decide) (by decide), hm_1271]
  have hm_1345 : M_1292 47 = some (aI G 6 (nF (fun _ => 0))) := by rw [hF_1313 47 (by decide) (by decide) (by decide) (by decide) (by decide) (by decide) (by decide), hm_1272]
  have hm_1346 : M_1292 48 = some (aI G 6 (nF (fun _ => 0))) := by rw [hF_1313 48 (by decide) (by decide) (by decide) (by decide) (by decide) (by decide) (by decide), hm_1273]
  have hm_1347 : M_1292 49 = some (aI G 24 (nF (fun _ => 0))) := by rw [hF_1313 49 (by decide) (by decide) (by decide) (by decide) (by decide) (by decide) (by decide), hm_1274]
  have hm_1348 : M_1292 50 = some (aI G 24 (nF (fun _ => 0))) := by rw [hF_1313 50 (by decide) (by decide) (by decide) (by decide) (by decide) (by decide) (by decide), hm_1275]
  have fr_1349 : M_1292 37 = none := by rw [hF_1313 37 (by decide) (by decide) (by decide) (by decide) (by decide) (by decide) (by decide)]; exact fr_1282
  have fr_1350 : M_1292 38 = none := by rw [hF_1313 38 (by decide) (by decide) (by decide) (by decide) (by decide) (by decide) (by decide)]; exact fr_1283
  have fr_1351 : M_1292 39 = none := by rw [hF_1313 39 (by decide) (by decide) (by decide) (by decide) (by decide) (by decide) (by decide)]; exact fr_1284
  have fr_1352 : M_1292 40 = none := by rw [hF_1313 40 (by decide) (by decide) (by decide) (by decide) (by decide) (by decide) (by decide)]; exact fr_1285
  have fr_1353 : M_1292 41 = none := by rw [hF_1313 41 (by decide) (by decide) (by decide) (by decide) (by decide) (by decide) (by decide)]; exact fr_1286
  have fr_1354 : M_1292 42 = none := by rw [hF_1313 42 (by decide) (by decide) (by decide) (by decide) (by decide) (by decide) (by decide)]; exact fr_1287
  have fr_1355 : M_1292 43 = none := by rw [hF_1313 43 (by decide) (by decide) (by decide) (by decide) (by decide) (by decide) (by decide)]; exact fr_1288
  clear hm_1241 hm_1242 hm_1243 hm_1244 hm_1245 hm_1246 hm_1247 hm_1248 hm_1249 hm_1250 hm_1251 hm_1252 hm_1253 hm_1254 hm_1255 hm_1256 hm_1257 hm_1258 hm_1259 hm_1260 hm_1261 hm_1262 hm_1263 hm_1264 hm_1265 hm_1266 hm_1267 hm_1268 hm_1269 hm_1270 hm_1271 hm_1272 hm_1273 hm_1274 hm_1275 fr_1282 fr_1283 fr_1284 fr_1285 fr_1286 fr_1287 fr_1288
  have hF_1356 : ∀ j : Nat, j ≠ 1 → j ≠ 2 → j ≠ 0 → j ≠ 3 → j ≠ 4 → j ≠ 5 → j ≠ 6 → j ≠ 7 → j ≠ 8 → j ≠ 9 → j ≠ 10 → j ≠ 11 → j ≠ 12 → j ≠ 13 → j ≠ 14 → j ≠ 15 → j ≠ 16 → j ≠ 17 → j ≠ 19 → j ≠ 20 → j ≠ 21 → j ≠ 22 → j ≠ 23 → j ≠ 24 → j ≠ 25 → j ≠ 26 → j ≠ 27 → j ≠ 28 → j ≠ 44 → j ≠ 45 → j ≠ 46 → j ≠ 47 → j ≠ 48 → j ≠ 49 → j ≠ 50 → j ≠ 30 → j ≠ 31 → j ≠ 32 → j ≠ 33 → j ≠ 34 → j ≠ 35 → j ≠ 36 → M_1292 j = M j := fun j q0 q1 q2 q3 q4 q5 q6 q7 q8 q9 q10 q11 q12 q13 q14 q15 q16 q17 q18 q19 q20 q21 q22 q23 q24 q25 q26 q27 q28 q29 q30 q31 q32 q33 q34 q35 q36 q37 q38 q39 q40 q41 => (hF_1313 j q35 q36 q37 q38 q39 q40 q41).trans (hF_1289 j q0 q1 q2 q3 q4 q5 q6 q7 q8 q9 q10 q11 q12 q13 q14 q15 q16 q17 q18 q19 q20 q21 q22 q23 q24 q25 q26 q27 q28 q29 q30 q31 q32 q33 q34 q35)
  clear hF_1289 hF_1303
  refine n_eqs (show ([.ref (ad_1233 30), .ref (ad_1233 0)] : List Value) = [.ref (ad_1295 30), .ref (ad_1295 0)] from by rw [hAd_1312 30 (by decide) (by decide) (by decide) (by decide) (by decide) (by decide), hAd_1312 0 (by decide) (by decide) (by decide) (by decide) (by decide) (by decide)]) ?_
  refine h_put (C := RX9) (T := TX9) (N := 10) hx hb hts i_RX9 tyX9 tyX9_ok nmX9 hown hI hm_1314 rfl 7 (by decide) f_61 rfl rfl rfl rfl (Nat.le_of_ble_eq_true rfl) dX9_init_89 (fun M_1357 H_1358 locs_1359 eM_1360 hI => ?_)
  have hm_1361 : M_1357 0 = some (.inr (10, [.ref (ad_1295 1), .ref (ad_1295 3), .ref (ad_1295 8), .ref (ad_1295 12), .ref (ad_1295 16), .ref (ad_1295 22), .ref (ad_1295 23), .ref (ad_1295 30), .null, .int (nI 0)])) := by rw [eM_1360]; exact va_up_self _ _ _
  have hm_1362 : M_1357 1 = some (cTape ad_1295 0) := by rw [eM_1360, va_up_ne _ _ (by decide)]; exact hm_1315
  have hm_1363 : M_1357 2 = some (aI G 400 (nF (fun _ => 0))) := by rw [eM_1360, va_up_ne _ _ (by decide)]; exact hm_1316
  have hm_1364 : M_1357 3 = some (cLaws ad_1295 ) := by rw [eM_1360, va_up_ne _ _ (by decide)]; exact hm_1317
  have hm_1365 : M_1357 4 = some (aI G 36 (nF (fun _ => 0))) := by rw [eM_1360, va_up_ne _ _ (by decide)]; exact hm_1318
  have hm_1366 : M_1357 5 = some (aI G 36 (nF mo_245)) := by rw [eM_1360, va_up_ne _ _ (by decide)]; exact hm_1319
  have hm_1367 : M_1357 6 = some (aI G 36 (nF (fun _ => 0))) := by rw [eM_1360, va_up_ne _ _ (by decide)]; exact hm_1320
  have hm_1368 : M_1357 7 = some (aZ G 6 (bF ho_246)) := by rw [eM_1360, va_up_ne _ _ (by decide)]; exact hm_1321
  have hm_1369 : M_1357 8 = some (cOnes ad_1295 0) := by rw [eM_1360, va_up_ne _ _ (by decide)]; exact hm_1322
  have hm_1370 : M_1357 9 = some (aI G 40 (nF hg_423)) := by rw [eM_1360, va_up_ne _ _ (by decide)]; exact hm_1323
  have hm_1371 : M_1357 10 = some (aI G 40 (nF lst_424)) := by rw [eM_1360, va_up_ne _ _ (by decide)]; exact hm_1324
  have hm_1372 : M_1357 11 = some (aI G 40 (nF (fun _ => 0))) := by rw [eM_1360, va_up_ne _ _ (by decide)]; exact hm_1325
  have hm_1373 : M_1357 12 = some (cEnds ad_1295 12 0) := by rw [eM_1360, va_up_ne _ _ (by decide)]; exact hm_1326
  have hm_1374 : M_1357 13 = some (aI G 6 (nF (fun _ => 0))) := by rw [eM_1360, va_up_ne _ _ (by decide)]; exact hm_1327
  have hm_1375 : M_1357 14 = some (aI G 6 (nF (fun _ => 0))) := by rw [eM_1360, va_up_ne _ _ (by decide)]; exact hm_1328
  have hm_1376 : M_1357 15 = some (aI G 6 (nF (fun _ => 0))) := by rw [eM_1360, va_up_ne _ _ (by decide)]; exact hm_1329
  have hm_1377 : M_1357 16 = some (cLines ad_1295 ) := by rw [eM_1360, va_up_ne _ _ (by decide)]; exact hm_1330
  have hm_1378 : M_1357 17 = some (cList ad_1295 (nI 0) G.2.2.2.2 0) := by rw [eM_1360, va_up_ne _ _ (by decide)]; exact hm_1331
  have hm_1379 : M_1357 19 = some (aZ G 120 (bF (fun _ => false))) := by rw [eM_1360, va_up_ne _ _ (by decide)]; exact hm_1332
  have hm_1380 : M_1357 20 = some (aI G 120 (nF (fun _ => 0))) := by rw [eM_1360, va_up_ne _ _ (by decide)]; exact hm_1333
  have hm_1381 : M_1357 21 = some (aI G 120 (nF (fun _ => 0))) := by rw [eM_1360, va_up_ne _ _ (by decide)]; exact hm_1334
  have hm_1382 : M_1357 22 = some (cReader ad_1295 0 0 (nI 0) (nI 0)) := by rw [eM_1360, va_up_ne _ _ (by decide)]; exact hm_1335
  have hm_1383 : M_1357 23 = some (cMatcher ad_1295 44 0) := by rw [eM_1360, va_up_ne _ _ (by decide)]; exact hm_1336
  have hm_1384 : M_1357 24 = some (aJ G 2160 (fun _ => 0)) := by rw [eM_1360, va_up_ne _ _ (by decide)]; exact hm_1337
  have hm_1385 : M_1357 25 = some (aI G 6 (nF (fun _ => 0))) := by rw [eM_1360, va_up_ne _ _ (by decide)]; exact hm_1338
  have hm_1386 : M_1357 26 = some (aJ G 240 (fun _ => 0)) := by rw [eM_1360, va_up_ne _ _ (by decide)]; exact hm_1339
  have hm_1387 : M_1357 27 = some (aJ G 3 (fun _ => 0)) := by rw [eM_1360, va_up_ne _ _ (by decide)]; exact hm_1340
  have hm_1388 : M_1357 28 = some (aI G 3 (nF (fun _ => 0))) := by rw [eM_1360, va_up_ne _ _ (by decide)]; exact hm_1341
  have hm_1389 : M_1357 44 = some (cQuestion ad_1295 44 0 0) := by rw [eM_1360, va_up_ne _ _ (by decide)]; exact hm_1342
  have hm_1390 : M_1357 45 = some (aI G 6 (nF (fun _ => 0))) := by rw [eM_1360, va_up_ne _ _ (by decide)]; exact hm_1343
  have hm_1391 : M_1357 46 = some (aZ G 6 (bF (fun _ => false))) := by rw [eM_1360, va_up_ne _ _ (by decide)]; exact hm_1344
  have hm_1392 : M_1357 47 = some (aI G 6 (nF (fun _ => 0))) := by rw [eM_1360, va_up_ne _ _ (by decide)]; exact hm_1345
  have hm_1393 : M_1357 48 = some (aI G 6 (nF (fun _ => 0))) := by rw [eM_1360, va_up_ne _ _ (by decide)]; exact hm_1346
  have hm_1394 : M_1357 49 = some (aI G 24 (nF (fun _ => 0))) := by rw [eM_1360, va_up_ne _ _ (by decide)]; exact hm_1347
  have hm_1395 : M_1357 50 = some (aI G 24 (nF (fun _ => 0))) := by rw [eM_1360, va_up_ne _ _ (by decide)]; exact hm_1348
  have hm_1396 : M_1357 30 = some (cQuestion ad_1295 30 0 0) := by rw [eM_1360, va_up_ne _ _ (by decide)]; exact hm_1305
  have hm_1397 : M_1357 31 = some (aI G 6 (nF (fun _ => 0))) := by rw [eM_1360, va_up_ne _ _ (by decide)]; exact hm_1306
  have hm_1398 : M_1357 32 = some (aZ G 6 (bF (fun _ => false))) := by rw [eM_1360, va_up_ne _ _ (by decide)]; exact hm_1307
  have hm_1399 : M_1357 33 = some (aI G 6 (nF (fun _ => 0))) := by rw [eM_1360, va_up_ne _ _ (by decide)]; exact hm_1308
  have hm_1400 : M_1357 34 = some (aI G 6 (nF (fun _ => 0))) := by rw [eM_1360, va_up_ne _ _ (by decide)]; exact hm_1309
  have hm_1401 : M_1357 35 = some (aI G 24 (nF (fun _ => 0))) := by rw [eM_1360, va_up_ne _ _ (by decide)]; exact hm_1310
  have hm_1402 : M_1357 36 = some (aI G 24 (nF (fun _ => 0))) := by rw [eM_1360, va_up_ne _ _ (by decide)]; exact hm_1311
  have fr_1403 : M_1357 37 = none := by rw [eM_1360, va_up_ne _ _ (by decide)]; exact fr_1349
  have fr_1404 : M_1357 38 = none := by rw [eM_1360, va_up_ne _ _ (by decide)]; exact fr_1350
  have fr_1405 : M_1357 39 = none := by rw [eM_1360, va_up_ne _ _ (by decide)]; exact fr_1351
  have fr_1406 : M_1357 40 = none := by rw [eM_1360, va_up_ne _ _ (by decide)]; exact fr_1352
  have fr_1407 : M_1357 41 = none := by rw [eM_1360, va_up_ne _ _ (by decide)]; exact fr_1353
  have fr_1408 : M_1357 42 = none := by rw [eM_1360, va_up_ne _ _ (by decide)]; exact fr_1354
  have fr_1409 : M_1357 43 = none := by rw [eM_1360, va_up_ne _ _ (by decide)]; exact fr_1355
  have hF_1410 : ∀ j : Nat, j ≠ 1 → j ≠ 2 → j ≠ 0 → j ≠ 3 → j ≠ 4 → j ≠ 5 → j ≠ 6 → j ≠ 7 → j ≠ 8 → j ≠ 9 → j ≠ 10 → j ≠ 11 → j ≠ 12 → j ≠ 13 → j ≠ 14 → j ≠ 15 → j ≠ 16 → j ≠ 17 → j ≠ 19 → j ≠ 20 → j ≠ 21 → j ≠ 22 → j ≠ 23 → j ≠ 24 → j ≠ 25 → j ≠ 26 → j ≠ 27 → j ≠ 28 → j ≠ 44 → j ≠ 45 → j ≠ 46 → j ≠ 47 → j ≠ 48 → j ≠ 49 → j ≠ 50 → j ≠ 30 → j ≠ 31 → j ≠ 32 → j ≠ 33 → j ≠ 34 → j ≠ 35 → j ≠ 36 → M_1357 j = M j := fun j q0 q1 q2 q3 q4 q5 q6 q7 q8 q9 q10 q11 q12 q13 q14 q15 q16 q17 q18 q19 q20 q21 q22 q23 q24 q25 q26 q27 q28 q29 q30 q31 q32 q33 q34 q35 q36 q37 q38 q39 q40 q41 => by rw [eM_1360, va_up_ne _ _ q2]; exact hF_1356 j q0 q1 q2 q3 q4 q5 q6 q7 q8 q9 q10 q11 q12 q13 q14 q15 q16 q17 q18 q19 q20 q21 q22 q23 q24 q25 q26 q27 q28 q29 q30 q31 q32 q33 q34 q35 q36 q37 q38 q39 q40 q41
  clear hm_1314 hm_1315 hm_1316 hm_1317 hm_1318 hm_1319 hm_1320 hm_1321 hm_1322 hm_1323 hm_1324 hm_1325 hm_1326 hm_1327 hm_1328 hm_1329 hm_1330 hm_1331 hm_1332 hm_1333 hm_1334 hm_1335 hm_1336 hm_1337 hm_1338 hm_1339 hm_1340 hm_1341 hm_1342 hm_1343 hm_1344 hm_1345 hm_1346 hm_1347 hm_1348 hm_1305 hm_1306 hm_1307 hm_1308 hm_1309 hm_1310 hm_1311 fr_1349 fr_1350 fr_1351 fr_1352 fr_1353 fr_1354 fr_1355 hF_1356
  refine lv_aload_n hx hb dX9_init_92 rfl (lv_at hl 0 rfl) ?_
  refine n_eqv (show Value.ref (ad 0) = .ref (ad_1295 0) from by rw [hAd_1312 0 (by decide) (by decide) (by decide) (by decide) (by decide) (by decide), hAd_1239 0 (by decide), hAd_1140 0 (by decide) (by decide) (by decide) (by decide) (by decide) (by decide) (by decide) (by decide) (by decide) (by decide) (by decide) (by decide), hAd_1055 0 (by decide), hAd_888 0 (by decide), hAd_781 0 (by decide) (by decide) (by decide) (by decide), hAd_712 0 (by decide), hAd_604 0 (by decide) (by decide) (by decide), hAd_537 0 (by decide), hAd_429 0 (by decide) (by decide) (by decide), hAd_359 0 (by decide), hAd_252 0 (by decide) (by decide) (by decide) (by decide), hAd_180 0 (by decide), hAd_70 0 (by decide), hAd_7 0 (by decide)]) ?_
  refine h_new (C := RX6) (T := TX6) (N := 8) (ci := 7) (fs := [.null, .null, .null, .null, .null, .null, .int (nI 0), .int (nI 0)]) hx hb hts i_RX6 tyX6 tyX6_ok hown nw_c58 nw_i58 nw_n58 hI rfl (fun j hj => match j, hj with | 0, _ => rfl | 1, _ => rfl | 2, _ => rfl | 3, _ => rfl | 4, _ => rfl | 5, _ => rfl | 6, _ => rfl | 7, _ => rfl | n + 8, h => absurd h (by omega)) (Nat.le_of_ble_eq_true rfl) (Nat.le_of_ble_eq_true rfl) dX9_init_93 37 fr_1403 (fun ad_1411 M_1412 H_1413 hA_1414 eM_1415 hI => ?_)
  have hAd_1417 : ∀ j : Nat, j ≠ 37 → ad_1411 j = ad_1295 j := fun j hj => by obtain ⟨q, e⟩ := hA_1414; rw [e]; exact va_up_ne _ _ hj
  have hm_1418 : M_1412 37 = some (.inr (7, [.null, .null, .null, .null, .null, .null, .int (nI 0), .int (nI 0)])) := by rw [eM_1415]; exact va_up_self _ _ _
  have hm_1419 : M_1412 0 = some (.inr (10, [.ref (ad_1411 1), .ref (ad_1411 3), .ref (ad_1411 8), .ref (ad_1411 12), .ref (ad_1411 16), .ref (ad_1411 22), .ref (ad_1411 23), .ref (ad_1411 30), .null, .int (nI 0)])) := by rw [eM_1415, va_up_ne _ _ (by decide), hm_1361]; rw [hAd_1417 1 (by decide), hAd_1417 3 (by decide), hAd_1417 8 (by decide), hAd_1417 12 (by decide), hAd_1417 16 (by decide), hAd_1417 22 (by decide), hAd_1417 23 (by decide), hAd_1417 30 (by decide)]
  have hm_1420 : M_1412 1 = some (cTape ad_1411 0) := by rw [eM_1415, va_up_ne _ _ (by decide), hm_1362]; simp only [cTape, hAd_1417 2 (by decide)]
  have hm_1421 : M_1412 2 = some (aI G 400 (nF (fun _ => 0))) := by rw [eM_1415, va_up_ne _ _ (by decide), hm_1363]
  have hm_1422 : M_1412 3 = some (cLaws ad_1411 ) := by rw [eM_1415, va_up_ne _ _ (by decide), hm_1364]; simp only [cLaws, hAd_1417 4 (by decide), hAd_1417 5 (by decide), hAd_1417 6 (by decide), hAd_1417 7 (by decide)]
  have hm_1423 : M_1412 4 = some (aI G 36 (nF (fun _ => 0))) := by rw [eM_1415, va_up_ne _ _ (by decide), hm_1365]
  have hm_1424 : M_1412 5 = some (aI G 36 (nF mo_245)) := by rw [eM_1415, va_up_ne _ _ (by decide), hm_1366]
  have hm_1425 : M_1412 6 = some (aI G 36 (nF (fun _ => 0))) := by rw [eM_1415, va_up_ne _ _ (by decide), hm_1367]
  have hm_1426 : M_1412 7 = some (aZ G 6 (bF ho_246)) := by rw [eM_1415, va_up_ne _ _ (by decide), hm_1368]
  have hm_1427 : M_1412 8 = some (cOnes ad_1411 0) := by rw [eM_1415, va_up_ne _ _ (by decide), hm_1369]; simp only [cOnes, hAd_1417 9 (by decide), hAd_1417 10 (by decide), hAd_1417 11 (by decide)]
  have hm_1428 : M_1412 9 = some (aI G 40 (nF hg_423)) := by rw [eM_1415, va_up_ne _ _ (by decide), hm_1370]
  have hm_1429 : M_1412 10 = some (aI G 40 (nF lst_424)) := by rw [eM_1415, va_up_ne _ _ (by decide), hm_1371]
  have hm_1430 : M_1412 11 = some (aI G 40 (nF (fun _ => 0))) := by rw [eM_1415, va_up_ne _ _ (by decide), hm_1372]
  have hm_1431 : M_1412 12 = some (cEnds ad_1411 12 0) := by rw [eM_1415, va_up_ne _ _ (by decide), hm_1373]; simp only [cEnds, hAd_1417 13 (by decide), hAd_1417 14 (by decide), hAd_1417 15 (by decide)]
  have hm_1432 : M_1412 13 = some (aI G 6 (nF (fun _ => 0))) := by rw [eM_1415, va_up_ne _ _ (by decide), hm_1374]
  have hm_1433 : M_1412 14 = some (aI G 6 (nF (fun _ => 0))) := by rw [eM_1415, va_up_ne _ _ (by decide), hm_1375]
  have hm_1434 : M_1412 15 = some (aI G 6 (nF (fun _ => 0))) := by rw [eM_1415, va_up_ne _ _ (by decide), hm_1376]
  have hm_1435 : M_1412 16 = some (cLines ad_1411 ) := by rw [eM_1415, va_up_ne _ _ (by decide), hm_1377]; simp only [cLines, hAd_1417 17 (by decide), hAd_1417 19 (by decide), hAd_1417 20 (by decide), hAd_1417 21 (by decide)]
  have hm_1436 : M_1412 17 = some (cList ad_1411 (nI 0) G.2.2.2.2 0) := by rw [eM_1415, va_up_ne _ _ (by decide), hm_1378]
  have hm_1437 : M_1412 19 = some (aZ G 120 (bF (fun _ => false))) := by rw [eM_1415, va_up_ne _ _ (by decide), hm_1379]
  have hm_1438 : M_1412 20 = some (aI G 120 (nF (fun _ => 0))) := by rw [eM_1415, va_up_ne _ _ (by decide), hm_1380]
  have hm_1439 : M_1412 21 = some (aI G 120 (nF (fun _ => 0))) := by rw [eM_1415, va_up_ne _ _ (by decide), hm_1381]
  have hm_1440 : M_1412 22 = some (cReader ad_1411 0 0 (nI 0) (nI 0)) := by rw [eM_1415, va_up_ne _ _ (by decide), hm_1382]
  have hm_1441 : M_1412 23 = some (cMatcher ad_1411 44 0) := by rw [eM_1415, va_up_ne _ _ (by decide), hm_1383]; simp only [cMatcher, hAd_1417 24 (by decide), hAd_1417 25 (by decide), hAd_1417 26 (by decide), hAd_1417 27 (by decide), hAd_1417 28 (by decide), hAd_1417 44 (by decide)]
  have hm_1442 : M_1412 24 = some (aJ G 2160 (fun _ => 0)) := by rw [eM_1415, va_up_ne _ _ (by decide), hm_1384]
  have hm_1443 : M_1412 25 = some (aI G 6 (nF (fun _ => 0))) := by rw [eM_1415, va_up_ne _ _ (by decide), hm_1385]
  have hm_1444 : M_1412 26 = some (aJ G 240 (fun _ => 0)) := by rw [eM_1415, va_up_ne _ _ (by decide), hm_1386]
  have hm_1445 : M_1412 27 = some (aJ G 3 (fun _ => 0)) := by rw [eM_1415, va_up_ne _ _ (by decide), hm_1387]
  have hm_1446 : M_1412 28 = some (aI G 3 (nF (fun _ => 0))) := by rw [eM_1415, va_up_ne _ _ (by decide), hm_1388]
  have hm_1447 : M_1412 44 = some (cQuestion ad_1411 44 0 0) := by rw [eM_1415, va_up_ne _ _ (by decide), hm_1389]; simp only [cQuestion, hAd_1417 45 (by decide), hAd_1417 46 (by decide), hAd_1417 47 (by decide), hAd_1417 48 (by decide), hAd_1417 49 (by decide), hAd_1417 50 (by decide)]
  have hm_1448 : M_1412 45 = some (aI G 6 (nF (fun _ => 0))) := by rw [eM_1415, va_up_ne _ _ (by decide), hm_1390]
  have hm_1449 : M_1412 46 = some (aZ G 6 (bF (fun _ => false))) := by rw [eM_1415, va_up_ne _ _ (by decide), hm_1391]
  have hm_1450 : M_1412 47 = some (aI G 6 (nF (fun _ => 0))) := by rw [eM_1415, va_up_ne _ _ (by decide), hm_1392]
  have hm_1451 : M_1412 48 = some (aI G 6 (nF (fun _ => 0))) := by rw [eM_1415, va_up_ne _ _ (by decide), hm_1393]
  have hm_1452 : M_1412 49 = some (aI G 24 (nF (fun _ => 0))) := by rw [eM_1415, va_up_ne _ _ (by decide), hm_1394]
  have hm_1453 : M_1412 50 = some (aI G 24 (nF (fun _ => 0))) := by rw [eM_1415, va_up_ne _ _ (by decide), hm_1395]
  have hm_1454 : M_1412 30 = some (cQuestion ad_1411 30 0 0) := by rw [eM_1415, va_up_ne _ _ (by decide), hm_1396]; simp only [cQuestion, hAd_1417 31 (by decide), hAd_1417 32 (by decide), hAd_1417 33 (by decide), hAd_1417 34 (by decide), hAd_1417 35 (by decide), hAd_1417 36 (by decide)]
  have hm_1455 : M_1412 31 = some (aI G 6 (nF (fun _ => 0))) := by rw [eM_1415, va_up_ne _ _ (by decide), hm_1397]
  have hm_1456 : M_1412 32 = some (aZ G 6 (bF (fun _ => false))) := by rw [eM_1415, va_up_ne _ _ (by decide), hm_1398]
  have hm_1457 : M_1412 33 = some (aI G 6 (nF (fun _ => 0))) := by rw [eM_1415, va_up_ne _ _ (by decide), hm_1399]
  have hm_1458 : M_1412 34 = some (aI G 6 (nF (fun _ => 0))) := by rw [eM_1415, va_up_ne _ _ (by decide), hm_1400]
  have hm_1459 : M_1412 35 = some (aI G 24 (nF (fun _ => 0))) := by rw [eM_1415, va_up_ne _ _ (by decide), hm_1401]
  have hm_1460 : M_1412 36 = some (aI G 24 (nF (fun _ => 0))) := by rw [eM_1415, va_up_ne _ _ (by decide), hm_1402]
  have fr_1461 : M_1412 38 = none := by rw [eM_1415, va_up_ne _ _ (by decide)]; exact fr_1404
  have fr_1462 : M_1412 39 = none := by rw [eM_1415, va_up_ne _ _ (by decide)]; exact fr_1405
  have fr_1463 : M_1412 40 = none := by rw [eM_1415, va_up_ne _ _ (by decide)]; exact fr_1406
  have fr_1464 : M_1412 41 = none := by rw [eM_1415, va_up_ne _ _ (by decide)]; exact fr_1407
  have fr_1465 : M_1412 42 = none := by rw [eM_1415, va_up_ne _ _ (by decide)]; exact fr_1408
  have fr_1466 : M_1412 43 = none := by rw [eM_1415, va_up_ne _ _ (by decide)]; exact fr_1409
  clear hm_1361 hm_1362 hm_1363 hm_1364 hm_1365 hm_1366 hm_1367 hm_1368 hm_1369 hm_1370 hm_1371 hm_1372 hm_1373 hm_1374 hm_1375 hm_1376 hm_1377 hm_1378 hm_1379 hm_1380 hm_1381 hm_1382 hm_1383 hm_1384 hm_1385 hm_1386 hm_1387 hm_1388 hm_1389 hm_1390 hm_1391 hm_1392 hm_1393 hm_1394 hm_1395 hm_1396 hm_1397 hm_1398 hm_1399 hm_1400 hm_1401 hm_1402 fr_1404 fr_1405 fr_1406 fr_1407 fr_1408 fr_1409
  have hF_1467 : ∀ j : Nat, j ≠ 1 → j ≠ 2 → j ≠ 0 → j ≠ 3 → j ≠ 4 → j ≠ 5 → j ≠ 6 → j ≠ 7 → j ≠ 8 → j ≠ 9 → j ≠ 10 → j ≠ 11 → j ≠ 12 → j ≠ 13 → j ≠ 14 → j ≠ 15 → j ≠ 16 → j ≠ 17 → j ≠ 19 → j ≠ 20 → j ≠ 21 → j ≠ 22 → j ≠ 23 → j ≠ 24 → j ≠ 25 → j ≠ 26 → j ≠ 27 → j ≠ 28 → j ≠ 44 → j ≠ 45 → j ≠ 46 → j ≠ 47 → j ≠ 48 → j ≠ 49 → j ≠ 50 → j ≠ 30 → j ≠ 31 → j ≠ 32 → j ≠ 33 → j ≠ 34 → j ≠ 35 → j ≠ 36 → j ≠ 37 → M_1412 j = M j := fun j q0 q1 q2 q3 q4 q5 q6 q7 q8 q9 q10 q11 q12 q13 q14 q15 q16 q17 q18 q19 q20 q21 q22 q23 q24 q25 q26 q27 q28 q29 q30 q31 q32 q33 q34 q35 q36 q37 q38 q39 q40 q41 q42 => by rw [eM_1415, va_up_ne _ _ q42]; exact hF_1410 j q0 q1 q2 q3 q4 q5 q6 q7 q8 q9 q10 q11 q12 q13 q14 q15 q16 q17 q18 q19 q20 q21 q22 q23 q24 q25 q26 q27 q28 q29 q30 q31 q32 q33 q34 q35 q36 q37 q38 q39 q40 q41
  clear hF_1410
  refine n_eqs (show ([.ref (ad_1411 37), .ref (ad_1295 0)] : List Value) = [.ref (ad_1411 37), .ref (ad_1411 0)] from by rw [hAd_1417 0 (by decide)]) ?_
  refine lv_dup hx hb dX9_init_96 rfl ?_
  refine k_Av (va_runIN (As := []) (rest := [.ref (ad_1411 37), .ref (ad_1411 0)]) ⟨hx, hb, hml, hown, hts⟩ (c_X6_init l G z ad_1411 M_1412 (k := 37) hm_1418 fr_1461 fr_1462 fr_1463 fr_1464 fr_1465 fr_1466) ⟨va_cnB 0 hts (gU (lwg_of t_187 rfl)) rfl rfl rfl (nwm_at (i := 5) (q := ("LineStore", 60, ⟨"LineStore$Question", "<init>", "()V"⟩, "LineStore")) hI rfl) sp_60 (by decide +kernel) ⟨Nat.le_of_ble_eq_true rfl, Nat.le_of_ble_eq_true rfl⟩, rfl, in_60⟩ hI.preS rfl rfl hl.1 rfl (lv_room (Nat.le_of_ble_eq_true rfl)) dX9_init_97 ⟨Nat.le_of_ble_eq_true rfl, Nat.le_of_ble_eq_true rfl⟩) hI (fun ad_1473 M_1470 H_1471 locs_1472 hp_1469 hI => ?_)
  obtain ⟨hm_1474, hm_1475, hm_1476, hm_1477, hm_1478, hm_1479, hm_1480, hF_1481, hAd_1482⟩ := hp_1469
  have hm_1483 : M_1470 37 = some (cQuestion ad_1473 37 0 0) := hm_1474
  have hm_1484 : M_1470 38 = some (aI G 6 (nF (fun _ => 0))) := hm_1475
  have hm_1485 : M_1470 39 = some (aZ G 6 (bF (fun _ => false))) := hm_1476
  have hm_1486 : M_1470 40 = some (aI G 6 (nF (fun _ => 0))) := hm_1477
  have hm_1487 : M_1470 41 = some (aI G 6 (nF (fun _ => 0))) := hm_1478
  have hm_1488 : M_1470 42 = some (aI G 24 (nF (fun _ => 0))) := hm_1479
  have hm_1489 : M_1470 43 = some (aI G 24 (nF (fun _ => 0))) := hm_1480
  have hAd_1490 : ∀ j : Nat, j ≠ 38 → j ≠ 39 → j ≠ 40 → j ≠ 41 → j ≠ 42 → j ≠ 43 → ad_1473 j = ad_1411 j := hAd_1482
  have hF_1491 : ∀ j : Nat, j ≠ 37 → j ≠ 38 → j ≠ 39 → j ≠ 40 → j ≠ 41 → j ≠ 42 → j ≠ 43 → M_1470 j = M_1412 j := hF_1481
  have hm_1492 : M_1470 0 = some (.inr (10, [.ref (ad_1473 1), .ref (ad_1473 3), .ref (ad_1473 8), .ref (ad_1473 12), .ref (ad_1473 16), .ref (ad_1473 22), .ref (ad_1473 23), .ref (ad_1473 30), .null, .int (nI 0)])) := by rw [hF_1491 0 (by decide) (by decide) (by decide) (by decide) (by decide) (by decide) (by decide), hm_1419]; rw [hAd_1490 1 (by decide) (by decide) (by decide) (by decide) (by decide) (by decide), hAd_1490 3 (by decide) (by decide) (by decide) (by decide) (by decide) (by decide), hAd_1490 8 (by decide) (by decide) (by decide) (by decide) (by decide) (by decide), hAd_1490 12 (by decide) (by decide) (by decide) (by decide) (by decide) (by decide), hAd_1490 16 (by decide) (by decide) (by decide) (by decide) (by decide) (by decide), hAd_1490 22 (by decide) (by decide) (by decide) (by decide) (by decide) (by decide), hAd_1490 23 (by decide) (by decide) (by decide) (by decide) (by decide) (by decide), hAd_1490 30 (by decide) (by decide) (by decide) (by decide) (by decide) (by decide)]
  have hm_1493 : M_1470 1 = some (cTape ad_1473 0) := by rw [hF_1491 1 (by decide) (by decide) (by decide) (by decide) (by decide) (by decide) (by decide), hm_1420]; simp only [cTape, hAd_1490 2 (by decide) (by decide) (by decide) (by decide) (by decide) (by decide)]
  have hm_1494 : M_1470 2 = some (aI G 400 (nF (fun _ => 0))) := by rw [hF_1491 2 (by decide) (by decide) (by decide) (by decide) (by decide) (by decide) (by decide), hm_1421]
  have hm_1495 : M_1470 3 = some (cLaws ad_1473 ) := by rw [hF_1491 3 (by decide) (by decide) (by decide) (by decide) (by decide) (by decide) (by decide), hm_1422]; simp only [cLaws, hAd_1490 4 (by decide) (by decide) (by decide) (by decide) (by decide) (by decide), hAd_1490 5 (by decide) (by decide) (by decide) (by decide) (by decide) (by decide), hAd_1490 6 (by decide) (by decide) (by decide) (by decide) (by decide) (by decide), hAd_1490 7 (by decide) (by decide) (by decide) (by decide) (by decide) (by decide)]
  have hm_1496 : M_1470 4 = some (aI G 36 (nF (fun _ => 0))) := by rw [hF_1491 4 (by decide) (by decide) (by decide) (by decide) (by decide) (by decide) (by decide), hm_1423]
  have hm_1497 : M_1470 5 = some (aI G 36 (nF mo_245)) := by rw [hF_1491 5 (by decide) (by decide) (by decide) (by decide) (by decide) (by decide) (by decide), hm_1424]
  have hm_1498 : M_1470 6 = some (aI G 36 (nF (fun _ => 0))) := by rw [hF_1491 6 (by decide) (by decide) (by decide) (by decide) (by decide) (by decide) (by decide), hm_1425]
  have hm_1499 : M_1470 7 = some (aZ G 6 (bF ho_246)) := by rw [hF_1491 7 (by decide) (by decide) (by decide) (by decide) (by decide) (by decide) (by decide), hm_1426]
  have hm_1500 : M_1470 8 = some (cOnes ad_1473 0) := by rw [hF_1491 8 (by decide) (by decide) (by decide) (by decide) (by decide) (by decide) (by decide), hm_1427]; simp only [cOnes, hAd_1490 9 (by decide) (by decide) (by decide) (by decide) (by decide) (by decide), hAd_1490 10 (by decide) (by decide) (by decide) (by decide) (by decide) (by decide), hAd_1490 11 (by decide) (by decide) (by decide) (by decide) (by decide) (by decide)]
  have hm_1501 : M_1470 9 = some (aI G 40 (nF hg_423)) := by rw [hF_1491 9 (by decide) (by decide) (by decide) (by decide) (by decide) (by decide) (by decide), hm_1428]
  have hm_1502 : M_1470 10 = some (aI G 40 (nF lst_424)) := by rw [hF_1491 10 (by decide) (by decide) (by decide) (by decide) (by decide) (by decide) (by decide), hm_1429]
  have hm_1503 : M_1470 11 = some (aI G 40 (nF (fun _ => 0))) := by rw [hF_1491 11 (by decide) (by decide) (by decide) (by decide) (by decide) (by decide) (by decide), hm_1430]
  have hm_1504 : M_1470 12 = some (cEnds ad_1473 12 0) := by rw [hF_1491 12 (by decide) (by decide) (by decide) (by decide) (by decide) (by decide) (by decide), hm_1431]; simp only [cEnds, hAd_1490 13 (by decide) (by decide) (by decide) (by decide) (by decide) (by decide), hAd_1490 14 (by decide) (by decide) (by decide) (by decide) (by decide) (by decide), hAd_1490 15 (by decide) (by decide) (by decide) (by decide) (by decide) (by decide)]
  have hm_1505 : M_1470 13 = some (aI G 6 (nF (fun _ => 0))) := by rw [hF_1491 13 (by decide) (by decide) (by decide) (by decide) (by decide) (by decide) (by decide), hm_1432]
  have hm_1506 : M_1470 14 = some (aI G 6 (nF (fun _ => 0))) := by rw [hF_1491 14 (by decide) (by decide) (by decide) (by decide) (by decide) (by decide) (by decide), hm_1433]
  have hm_1507 : M_1470 15 = some (aI G 6 (nF (fun _ => 0))) := by rw [hF_1491 15 (by decide) (by decide) (by decide) (by decide) (by decide) (by decide) (by decide), hm_1434]
  have hm_1508 : M_1470 16 = some (cLines ad_1473 ) := by rw [hF_1491 16 (by decide) (by decide) (by decide) (by decide) (by decide) (by decide) (by decide), hm_1435]; simp only [cLines, hAd_1490 17 (by decide) (by decide) (by decide) (by decide) (by decide) (by decide), hAd_1490 19 (by decide) (by decide) (by decide) (by decide) (by decide) (by decide), hAd_1490 20 (by decide) (by decide) (by decide) (by decide) (by decide) (by decide), hAd_1490 21 (by decide) (by decide) (by decide) (by decide) (by decide) (by decide)]
  have hm_1509 : M_1470 17 = some (cList ad_1473 (nI 0) G.2.2.2.2 0) := by rw [hF_1491 17 (by decide) (by decide) (by decide) (by decide) (by decide) (by decide) (by decide), hm_1436]
  have hm_1510 : M_1470 19 = some (aZ G 120 (bF (fun _ => false))) := by rw [hF_1491 19 (by decide) (by decide) (by decide) (by decide) (by decide) (by decide) (by decide), hm_1437]
  have hm_1511 : M_1470 20 = some (aI G 120 (nF (fun _ => 0))) := by rw [hF_1491 20 (by decide) (by decide) (by decide) (by decide) (by decide) (by decide) (by decide), hm_1438]
  have hm_1512 : M_1470 21 = some (aI G 120 (nF (fun _ => 0))) := by rw [hF_1491 21 (by decide) (by decide) (by decide) (by decide) (by decide) (by decide) (by decide), hm_1439]
  have hm_1513 : M_1470 22 = some (cReader ad_1473 0 0 (nI 0) (nI 0)) := by rw [hF_1491 22 (by decide) (by decide) (by decide) (by decide) (by decide) (by decide) (by decide), hm_1440]
  have hm_1514 : M_1470 23 = some (cMatcher ad_1473 44 0) := by rw [hF_1491 23 (by decide) (by decide) (by decide) (by decide) (by decide) (by decide) (by decide), hm_1441]; simp only [cMatcher, hAd_1490 24 (by decide) (by decide) (by decide) (by decide) (by decide) (by decide), hAd_1490 25 (by decide) (by decide) (by decide) (by decide) (by decide) (by decide), hAd_1490 26 (by decide) (by decide) (by decide) (by decide) (by decide) (by decide), hAd_1490 27 (by decide) (by decide) (by decide) (by decide) (by decide) (by decide), hAd_1490 28 (by decide) (by decide) (by decide) (by decide) (by decide) (by decide), hAd_1490 44 (by decide) (by decide) (by decide) (by decide) (by decide) (by decide)]
  have hm_1515 : M_1470 24 = some (aJ G 2160 (fun _ => 0)) := by rw [hF_1491 24 (by decide) (by decide) (by decide) (by decide) (by decide) (by decide) (by decide), hm_1442]
  have hm_1516 : M_1470 25 = some (aI G 6 (nF (fun _ => 0))) := by rw [hF_1491 25 (by decide) (by decide) (by decide) (by decide) (by decide) (by decide) (by decide), hm_1443]
  have hm_1517 : M_1470 26 = some (aJ G 240 (fun _ => 0)) := by rw [hF_1491 26 (by decide) (by decide) (by decide) (by decide) (by decide) (by decide) (by decide), hm_1444]
  have hm_1518 : M_1470 27 = some (aJ G 3 (fun _ => 0)) := by rw [hF_1491 27 (by decide) (by decide) (by decide) (by decide) (by decide) (by decide) (by decide), hm_1445]
  have hm_1519 : M_1470 28 = some (aI G 3 (nF (fun _ => 0))) := by rw [hF_1491 28 (by decide) (by decide) (by decide) (by decide) (by decide) (by decide) (by decide), hm_1446]
  have hm_1520 : M_1470 44 = some (cQuestion ad_1473 44 0 0) := by rw [hF_1491 44 (by decide) (by decide) (by decide) (by decide) (by decide) (by decide) (by decide), hm_1447]; simp only [cQuestion, hAd_1490 45 (by decide) (by decide) (by decide) (by decide) (by decide) (by decide), hAd_1490 46 (by decide) (by decide) (by decide) (by decide) (by decide) (by decide), hAd_1490 47 (by decide) (by decide) (by decide) (by decide) (by decide) (by decide), hAd_1490 48 (by decide) (by decide) (by decide) (by decide) (by decide) (by decide), hAd_1490 49 (by decide) (by decide) (by decide) (by decide) (by decide) (by decide), hAd_1490 50 (by decide) (by decide) (by decide) (by decide) (by decide) (by decide)]
  have hm_1521 : M_1470 45 = some (aI G 6 (nF (fun _ => 0))) := by rw [hF_1491 45 (by decide) (by decide) (by decide) (by decide) (by decide) (by decide) (by decide), hm_1448]
  have hm_1522 : M_1470 46 = some (aZ G 6 (bF (fun _ => false))) := by rw [hF_1491 46 (by decide) (by decide) (by decide) (by decide) (by decide) (by decide) (by decide), hm_1449]
  have hm_1523 : M_1470 47 = some (aI G 6 (nF (fun _ => 0))) := by rw [hF_1491 47 (by decide) (by decide) (by decide) (by decide) (by decide) (by decide) (by decide), hm_1450]
  have hm_1524 : M_1470 48 = some (aI G 6 (nF (fun _ => 0))) := by rw [hF_1491 48 (by decide) (by decide) (by decide) (by decide) (by decide) (by decide) (by decide), hm_1451]
  have hm_1525 : M_1470 49 = some (aI G 24 (nF (fun _ => 0))) := by rw [hF_1491 49 (by decide) (by decide) (by decide) (by decide) (by decide) (by decide) (by decide), hm_1452]
  have hm_1526 : M_1470 50 = some (aI G 24 (nF (fun _ => 0))) := by rw [hF_1491 50 (by decide) (by decide) (by decide) (by decide) (by decide) (by decide) (by decide), hm_1453]
  have hm_1527 : M_1470 30 = some (cQuestion ad_1473 30 0 0) := by rw [hF_1491 30 (by decide) (by decide) (by decide) (by decide) (by decide) (by decide) (by decide), hm_1454]; simp only [cQuestion, hAd_1490 31 (by decide) (by decide) (by decide) (by decide) (by decide) (by decide), hAd_1490 32 (by decide) (by decide) (by decide) (by decide) (by decide) (by decide), hAd_1490 33 (by decide) (by decide) (by decide) (by decide) (by decide) (by decide), hAd_1490 34 (by decide) (by decide) (by decide) (by decide) (by decide) (by decide), hAd_1490 35 (by decide) (by decide) (by decide) (by decide) (by decide) (by decide), hAd_1490 36 (by decide) (by decide) (by decide) (by decide) (by decide) (by decide)]
  have hm_1528 : M_1470 31 = some (aI G 6 (nF (fun _ => 0))) := by rw [hF_1491 31 (by decide) (by decide) (by decide) (by decide) (by decide) (by decide) (by decide), hm_1455]
  have hm_1529 : M_1470 32 = some (aZ G 6 (bF (fun _ => false))) := by rw [hF_1491 32 (by decide) (by decide) (by decide) (by decide) (by decide) (by decide) (by decide), hm_1456]
  have hm_1530 : M_1470 33 = some (aI G 6 (nF (fun _ => 0))) := by rw [hF_1491 33 (by decide) (by decide) (by decide) (by decide) (by decide) (by decide) (by decide), hm_1457]
  have hm_1531 : M_1470 34 = some (aI G 6 (nF (fun _ => 0))) := by rw [hF_1491 34 (by decide) (by decide) (by decide) (by decide) (by decide) (by decide) (by decide), hm_1458]
  have hm_1532 : M_1470 35 = some (aI G 24 (nF (fun _ => 0))) := by rw [hF_1491 35 (by decide) (by decide) (by decide) (by decide) (by decide) (by decide) (by decide), hm_1459]
  have hm_1533 : M_1470 36 = some (aI G 24 (nF (fun _ => 0))) := by rw [hF_1491 36 (by decide) (by decide) (by decide) (by decide) (by decide) (by decide) (by decide), hm_1460]
  clear hm_1419 hm_1420 hm_1421 hm_1422 hm_1423 hm_1424 hm_1425 hm_1426 hm_1427 hm_1428 hm_1429 hm_1430 hm_1431 hm_1432 hm_1433 hm_1434 hm_1435 hm_1436 hm_1437 hm_1438 hm_1439 hm_1440 hm_1441 hm_1442 hm_1443 hm_1444 hm_1445 hm_1446 hm_1447 hm_1448 hm_1449 hm_1450 hm_1451 hm_1452 hm_1453 hm_1454 hm_1455 hm_1456 hm_1457 hm_1458 hm_1459 hm_1460
  have hF_1534 : ∀ j : Nat, j ≠ 1 → j ≠ 2 → j ≠ 0 → j ≠ 3 → j ≠ 4 → j ≠ 5 → j ≠ 6 → j ≠ 7 → j ≠ 8 → j ≠ 9 → j ≠ 10 → j ≠ 11 → j ≠ 12 → j ≠ 13 → j ≠ 14 → j ≠ 15 → j ≠ 16 → j ≠ 17 → j ≠ 19 → j ≠ 20 → j ≠ 21 → j ≠ 22 → j ≠ 23 → j ≠ 24 → j ≠ 25 → j ≠ 26 → j ≠ 27 → j ≠ 28 → j ≠ 44 → j ≠ 45 → j ≠ 46 → j ≠ 47 → j ≠ 48 → j ≠ 49 → j ≠ 50 → j ≠ 30 → j ≠ 31 → j ≠ 32 → j ≠ 33 → j ≠ 34 → j ≠ 35 → j ≠ 36 → j ≠ 37 → j ≠ 38 → j ≠ 39 → j ≠ 40 → j ≠ 41 → j ≠ 42 → j ≠ 43 → M_1470 j = M j := fun j q0 q1 q2 q3 q4 q5 q6 q7 q8 q9 q10 q11 q12 q13 q14 q15 q16 q17 q18 q19 q20 q21 q22 q23 q24 q25 q26 q27 q28 q29 q30 q31 q32 q33 q34 q35 q36 q37 q38 q39 q40 q41 q42 q43 q44 q45 q46 q47 q48 => (hF_1491 j q42 q43 q44 q45 q46 q47 q48).trans (hF_1467 j q0 q1 q2 q3 q4 q5 q6 q7 q8 q9 q10 q11 q12 q13 q14 q15 q16 q17 q18 q19 q20 q21 q22 q23 q24 q25 q26 q27 q28 q29 q30 q31 q32 q33 q34 q35 q36 q37 q38 q39 q40 q41 q42)
  clear hF_1467 hF_1481
  refine n_eqs (show ([.ref (ad_1411 37), .ref (ad_1411 0)] : List Value) = [.ref (ad_1473 37), .ref (ad_1473 0)] from by rw [hAd_1490 37 (by decide) (by decide) (by decide) (by decide) (by decide) (by decide), hAd_1490 0 (by decide) (by decide) (by decide) (by decide) (by decide) (by decide)]) ?_
  refine h_put (C := RX9) (T := TX9) (N := 10) hx hb hts i_RX9 tyX9 tyX9_ok nmX9 hown hI hm_1492 rfl 8 (by decide) f_65 rfl rfl rfl rfl (Nat.le_of_ble_eq_true rfl) dX9_init_100 (fun M_1535 H_1536 locs_1537 eM_1538 hI => ?_)
  have hm_1539 : M_1535 0 = some (.inr (10, [.ref (ad_1473 1), .ref (ad_1473 3), .ref (ad_1473 8), .ref (ad_1473 12), .ref (ad_1473 16), .ref (ad_1473 22), .ref (ad_1473 23), .ref (ad_1473 30), .ref (ad_1473 37), .int (nI 0)])) := by rw [eM_1538]; exact va_up_self _ _ _
  have hm_1540 : M_1535 1 = some (cTape ad_1473 0) := by rw [eM_1538, va_up_ne _ _ (by decide)]; exact hm_1493
  have hm_1541 : M_1535 2 = some (aI G 400 (nF (fun _ => 0))) := by rw [eM_1538, va_up_ne _ _ (by decide)]; exact hm_1494
  have hm_1542 : M_1535 3 = some (cLaws ad_1473 ) := by rw [eM_1538, va_up_ne _ _ (by decide)]; exact hm_1495
  have hm_1543 : M_1535 4 = some (aI G 36 (nF (fun _ => 0))) := by rw [eM_1538, va_up_ne _ _ (by decide)]; exact hm_1496
  have hm_1544 : M_1535 5 = some (aI G 36 (nF mo_245)) := by rw [eM_1538, va_up_ne _ _ (by decide)]; exact hm_1497
  have hm_1545 : M_1535 6 = some (aI G 36 (nF (fun _ => 0))) := by rw [eM_1538, va_up_ne _ _ (by decide)]; exact hm_1498
  have hm_1546 : M_1535 7 = some (aZ G 6 (bF ho_246)) := by rw [eM_1538, va_up_ne _ _ (by decide)]; exact hm_1499
  have hm_1547 : M_1535 8 = some (cOnes ad_1473 0) := by rw [eM_1538, va_up_ne _ _ (by decide)]; exact hm_1500
  have hm_1548 : M_1535 9 = some (aI G 40 (nF hg_423)) := by rw [eM_1538, va_up_ne _ _ (by decide)]; exact hm_1501
  have hm_1549 : M_1535 10 = some (aI G 40 (nF lst_424)) := by rw [eM_1538, va_up_ne _ _ (by decide)]; exact hm_1502
  have hm_1550 : M_1535 11 = some (aI G 40 (nF (fun _ => 0))) := by rw [eM_1538, va_up_ne _ _ (by decide)]; exact hm_1503
  have hm_1551 : M_1535 12 = some (cEnds ad_1473 12 0) := by rw [eM_1538, va_up_ne _ _ (by decide)]; exact hm_1504
  have hm_1552 : M_1535 13 = some (aI G 6 (nF (fun _ => 0))) := by rw [eM_1538, va_up_ne _ _ (by decide)]; exact hm_1505
  have hm_1553 : M_1535 14 = some (aI G 6 (nF (fun _ => 0))) := by rw [eM_1538, va_up_ne _ _ (by decide)]; exact hm_1506
  have hm_1554 : M_1535 15 = some (aI G 6 (nF (fun _ => 0))) := by rw [eM_1538, va_up_ne _ _ (by decide)]; exact hm_1507
  have hm_1555 : M_1535 16 = some (cLines ad_1473 ) := by rw [eM_1538, va_up_ne _ _ (by decide)]; exact hm_1508
  have hm_1556 : M_1535 17 = some (cList ad_1473 (nI 0) G.2.2.2.2 0) := by rw [eM_1538, va_up_ne _ _ (by decide)]; exact hm_1509
  have hm_1557 : M_1535 19 = some (aZ G 120 (bF (fun _ => false))) := by rw [eM_1538, va_up_ne _ _ (by decide)]; exact hm_1510
  have hm_1558 : M_1535 20 = some (aI G 120 (nF (fun _ => 0))) := by rw [eM_1538, va_up_ne _ _ (by decide)]; exact hm_1511
  have hm_1559 : M_1535 21 = some (aI G 120 (nF (fun _ => 0))) := by rw [eM_1538, va_up_ne _ _ (by decide)]; exact hm_1512
  have hm_1560 : M_1535 22 = some (cReader ad_1473 0 0 (nI 0) (nI 0)) := by rw [eM_1538, va_up_ne _ _ (by decide)]; exact hm_1513
  have hm_1561 : M_1535 23 = some (cMatcher ad_1473 44 0) := by rw [eM_1538, va_up_ne _ _ (by decide)]; exact hm_1514
  have hm_1562 : M_1535 24 = some (aJ G 2160 (fun _ => 0)) := by rw [eM_1538, va_up_ne _ _ (by decide)]; exact hm_1515
  have hm_1563 : M_1535 25 = some (aI G 6 (nF (fun _ => 0))) := by rw [eM_1538, va_up_ne _ _ (by decide)]; exact hm_1516
  have hm_1564 : M_1535 26 = some (aJ G 240 (fun _ => 0)) := by rw [eM_1538, va_up_ne _ _ (by decide)]; exact hm_1517
  have hm_1565 : M_1535 27 = some (aJ G 3 (fun _ => 0)) := by rw [eM_1538, va_up_ne _ _ (by decide)]; exact hm_1518
  have hm_1566 : M_1535 28 = some (aI G 3 (nF (fun _ => 0))) := by rw [eM_1538, va_up_ne _ _ (by decide)]; exact hm_1519
  have hm_1567 : M_1535 44 = some (cQuestion ad_1473 44 0 0) := by rw [eM_1538, va_up_ne _ _ (by decide)]; exact hm_1520
  have hm_1568 : M_1535 45 = some (aI G 6 (nF (fun _ => 0))) := by rw [eM_1538, va_up_ne _ _ (by decide)]; exact hm_1521
  have hm_1569 : M_1535 46 = some (aZ G 6 (bF (fun _ => false))) := by rw [eM_1538, va_up_ne _ _ (by decide)]; exact hm_1522
  have hm_1570 : M_1535 47 = some (aI G 6 (nF (fun _ => 0))) := by rw [eM_1538, va_up_ne _ _ (by decide)]; exact hm_1523
  have hm_1571 : M_1535 48 = some (aI G 6 (nF (fun _ => 0))) := by rw [eM_1538, va_up_ne _ _ (by decide)]; exact hm_1524
  have hm_1572 : M_1535 49 = some (aI G 24 (nF (fun _ => 0))) := by rw [eM_1538, va_up_ne _ _ (by decide)]; exact hm_1525
  have hm_1573 : M_1535 50 = some (aI G 24 (nF (fun _ => 0))) := by rw [eM_1538, va_up_ne _ _ (by decide)]; exact hm_1526
  have hm_1574 : M_1535 30 = some (cQuestion ad_1473 30 0 0) := by rw [eM_1538, va_up_ne _ _ (by decide)]; exact hm_1527
  have hm_1575 : M_1535 31 = some (aI G 6 (nF (fun _ => 0))) := by rw [eM_1538, va_up_ne _ _ (by decide)]; exact hm_1528
  have hm_1576 : M_1535 32 = some (aZ G 6 (bF (fun _ => false))) := by rw [eM_1538, va_up_ne _ _ (by decide)]; exact hm_1529
  have hm_1577 : M_1535 33 = some (aI G 6 (nF (fun _ => 0))) := by rw [eM_1538, va_up_ne _ _ (by decide)]; exact hm_1530
  have hm_1578 : M_1535 34 = some (aI G 6 (nF (fun _ => 0))) := by rw [eM_1538, va_up_ne _ _ (by decide)]; exact hm_1531
  have hm_1579 : M_1535 35 = some (aI G 24 (nF (fun _ => 0))) := by rw [eM_1538, va_up_ne _ _ (by decide)]; exact hm_1532
  have hm_1580 : M_1535 36 = some (aI G 24 (nF (fun _ => 0))) := by rw [eM_1538, va_up_ne _ _ (by decide)]; exact hm_1533
  have hm_1581 : M_1535 37 = some (cQuestion ad_1473 37 0 0) := by rw [eM_1538, va_up_ne _ _ (by decide)]; exact hm_1483
  have hm_1582 : M_1535 38 = some (aI G 6 (nF (fun _ => 0))) := by rw [eM_1538, va_up_ne _ _ (by decide)]; exact hm_1484
  have hm_1583 : M_1535 39 = some (aZ G 6 (bF (fun _ => false))) := by rw [eM_1538, va_up_ne _ _ (by decide)]; exact hm_1485
  have hm_1584 : M_1535 40 = some (aI G 6 (nF (fun _ => 0))) := by rw [eM_1538, va_up_ne _ _ (by decide)]; exact hm_1486
  have hm_1585 : M_1535 41 = some (aI G 6 (nF (fun _ => 0))) := by rw [eM_1538, va_up_ne _ _ (by decide)]; exact hm_1487
  have hm_1586 : M_1535 42 = some (aI G 24 (nF (fun _ => 0))) := by rw [eM_1538, va_up_ne _ _ (by decide)]; exact hm_1488
  have hm_1587 : M_1535 43 = some (aI G 24 (nF (fun _ => 0))) := by rw [eM_1538, va_up_ne _ _ (by decide)]; exact hm_1489
  have hF_1588 : ∀ j : Nat, j ≠ 1 → j ≠ 2 → j ≠ 0 → j ≠ 3 → j ≠ 4 → j ≠ 5 → j ≠ 6 → j ≠ 7 → j ≠ 8 → j ≠ 9 → j ≠ 10 → j ≠ 11 → j ≠ 12 → j ≠ 13 → j ≠ 14 → j ≠ 15 → j ≠ 16 → j ≠ 17 → j ≠ 19 → j ≠ 20 → j ≠ 21 → j ≠ 22 → j ≠ 23 → j ≠ 24 → j ≠ 25 → j ≠ 26 → j ≠ 27 → j ≠ 28 → j ≠ 44 → j ≠ 45 → j ≠ 46 → j ≠ 47 → j ≠ 48 → j ≠ 49 → j ≠ 50 → j ≠ 30 → j ≠ 31 → j ≠ 32 → j ≠ 33 → j ≠ 34 → j ≠ 35 → j ≠ 36 → j ≠ 37 → j ≠ 38 → j ≠ 39 → j ≠ 40 → j ≠ 41 → j ≠ 42 → j ≠ 43 → M_1535 j = M j := fun j q0 q1 q2 q3 q4 q5 q6 q7 q8 q9 q10 q11 q12 q13 q14 q15 q16 q17 q18 q19 q20 q21 q22 q23 q24 q25 q26 q27 q28 q29 q30 q31 q32 q33 q34 q35 q36 q37 q38 q39 q40 q41 q42 q43 q44 q45 q46 q47 q48 => by rw [eM_1538, va_up_ne _ _ q2]; exact hF_1534 j q0 q1 q2 q3 q4 q5 q6 q7 q8 q9 q10 q11 q12 q13 q14 q15 q16 q17 q18 q19 q20 q21 q22 q23 q24 q25 q26 q27 q28 q29 q30 q31 q32 q33 q34 q35 q36 q37 q38 q39 q40 q41 q42 q43 q44 q45 q46 q47 q48
  clear hm_1492 hm_1493 hm_1494 hm_1495 hm_1496 hm_1497 hm_1498 hm_1499 hm_1500 hm_1501 hm_1502 hm_1503 hm_1504 hm_1505 hm_1506 hm_1507 hm_1508 hm_1509 hm_1510 hm_1511 hm_1512 hm_1513 hm_1514 hm_1515 hm_1516 hm_1517 hm_1518 hm_1519 hm_1520 hm_1521 hm_1522 hm_1523 hm_1524 hm_1525 hm_1526 hm_1527 hm_1528 hm_1529 hm_1530 hm_1531 hm_1532 hm_1533 hm_1483 hm_1484 hm_1485 hm_1486 hm_1487 hm_1488 hm_1489 hF_1534
  refine lv_aload_n hx hb dX9_init_103 rfl (lv_at hl 0 rfl) ?_
  refine n_eqv (show Value.ref (ad 0) = .ref (ad_1473 0) from by rw [hAd_1490 0 (by decide) (by decide) (by decide) (by decide) (by decide) (by decide), hAd_1417 0 (by decide), hAd_1312 0 (by decide) (by decide) (by decide) (by decide) (by decide) (by decide), hAd_1239 0 (by decide), hAd_1140 0 (by decide) (by decide) (by decide) (by decide) (by decide) (by decide) (by decide) (by decide) (by decide) (by decide) (by decide) (by decide), hAd_1055 0 (by decide), hAd_888 0 (by decide), hAd_781 0 (by decide) (by decide) (by decide) (by decide), hAd_712 0 (by decide), hAd_604 0 (by decide) (by decide) (by decide), hAd_537 0 (by decide), hAd_429 0 (by decide) (by decide) (by decide), hAd_359 0 (by decide), hAd_252 0 (by decide) (by decide) (by decide) (by decide), hAd_180 0 (by decide), hAd_70 0 (by decide), hAd_7 0 (by decide)]) ?_
  refine lv_iconst (v := (-1)) hx hb dX9_init_104 (by decide) ?_
  refine h_put (C := RX9) (T := TX9) (N := 10) hx hb hts i_RX9 tyX9 tyX9_ok nmX9 hown hI hm_1539 rfl 9 (by decide) f_68 rfl rfl rfl rfl (Nat.le_of_ble_eq_true rfl) dX9_init_105 (fun M_1589 H_1590 locs_1591 eM_1592 hI => ?_)
  have hm_1593 : M_1589 0 = some (.inr (10, [.ref (ad_1473 1), .ref (ad_1473 3), .ref (ad_1473 8), .ref (ad_1473 12), .ref (ad_1473 16), .ref (ad_1473 22), .ref (ad_1473 23), .ref (ad_1473 30), .ref (ad_1473 37), .int (-1)])) := by rw [eM_1592]; exact va_up_self _ _ _
  have hm_1594 : M_1589 1 = some (cTape ad_1473 0) := by rw [eM_1592, va_up_ne _ _ (by decide)]; exact hm_1540
  have hm_1595 : M_1589 2 = some (aI G 400 (nF (fun _ => 0))) := by rw [eM_1592, va_up_ne _ _ (by decide)]; exact hm_1541
  have hm_1596 : M_1589 3 = some (cLaws ad_1473 ) := by rw [eM_1592, va_up_ne _ _ (by decide)]; exact hm_1542
  have hm_1597 : M_1589 4 = some (aI G 36 (nF (fun _ => 0))) := by rw [eM_1592, va_up_ne _ _ (by decide)]; exact hm_1543
  have hm_1598 : M_1589 5 = some (aI G 36 (nF mo_245)) := by rw [eM_1592, va_up_ne _ _ (by decide)]; exact hm_1544
  have hm_1599 : M_1589 6 = some (aI G 36 (nF (fun _ => 0))) := by rw [eM_1592, va_up_ne _ _ (by decide)]; exact hm_1545
  have hm_1600 : M_1589 7 = some (aZ G 6 (bF ho_246)) := by rw [eM_1592, va_up_ne _ _ (by decide)]; exact hm_1546
  have hm_1601 : M_1589 8 = some (cOnes ad_1473 0) := by rw [eM_1592, va_up_ne _ _ (by decide)]; exact hm_1547
  have hm_1602 : M_1589 9 = some (aI G 40 (nF hg_423)) := by rw [eM_1592, va_up_ne _ _ (by decide)]; exact hm_1548
  have hm_1603 : M_1589 10 = some (aI G 40 (nF lst_424)) := by rw [eM_1592, va_up_ne _ _ (by decide)]; exact hm_1549
  have hm_1604 : M_1589 11 = some (aI G 40 (nF (fun _ => 0))) := by rw [eM_1592, va_up_ne _ _ (by decide)]; exact hm_1550
  have hm_1605 : M_1589 12 = some (cEnds ad_1473 12 0) := by rw [eM_1592, va_up_ne _ _ (by decide)]; exact hm_1551
  have hm_1606 : M_1589 13 = some (aI G 6 (nF (fun _ => 0))) := by rw [eM_1592, va_up_ne _ _ (by decide)]; exact hm_1552
  have hm_1607 : M_1589 14 = some (aI G 6 (nF (fun _ => 0))) := by rw [eM_1592, va_up_ne _ _ (by decide)]; exact hm_1553
  have hm_1608 : M_1589 15 = some (aI G 6 (nF (fun _ => 0))) := by rw [eM_1592, va_up_ne _ _ (by decide)]; exact hm_1554
  have hm_1609 : M_1589 16 = some (cLines ad_1473 ) := by rw [eM_1592, va_up_ne _ _ (by decide)]; exact hm_1555
  have hm_1610 : M_1589 17 = some (cList ad_1473 (nI 0) G.2.2.2.2 0) := by rw [eM_1592, va_up_ne _ _ (by decide)]; exact hm_1556
  have hm_1611 : M_1589 19 = some (aZ G 120 (bF (fun _ => false))) := by rw [eM_1592, va_up_ne _ _ (by decide)]; exact hm_1557
  have hm_1612 : M_1589 20 = some (aI G 120 (nF (fun _ => 0))) := by rw [eM_1592, va_up_ne _ _ (by decide)]; exact hm_1558
  have hm_1613 : M_1589 21 = some (aI G 120 (nF (fun _ => 0))) := by rw [eM_1592, va_up_ne _ _ (by decide)]; exact hm_1559
  have hm_1614 : M_1589 22 = some (cReader ad_1473 0 0 (nI 0) (nI 0)) := by rw [eM_1592, va_up_ne _ _ (by decide)]; exact hm_1560
  have hm_1615 : M_1589 23 = some (cMatcher ad_1473 44 0) := by rw [eM_1592, va_up_ne _ _ (by decide)]; exact hm_1561
  have hm_1616 : M_1589 24 = some (aJ G 2160 (fun _ => 0)) := by rw [eM_1592, va_up_ne _ _ (by decide)]; exact hm_1562
  have hm_1617 : M_1589 25 = some (aI G 6 (nF (fun _ => 0))) := by rw [eM_1592, va_up_ne _ _ (by decide)]; exact hm_1563
  have hm_1618 : M_1589 26 = some (aJ G 240 (fun _ => 0)) := by rw [eM_1592, va_up_ne _ _ (by decide)]; exact hm_1564
  have hm_1619 : M_1589 27 = some (aJ G 3 (fun _ => 0)) := by rw [eM_1592, va_up_ne _ _ (by decide)]; exact hm_1565
  have hm_1620 : M_1589 28 = some (aI G 3 (nF (fun _ => 0))) := by rw [eM_1592, va_up_ne _ _ (by decide)]; exact hm_1566
  have hm_1621 : M_1589 44 = some (cQuestion ad_1473 44 0 0) := by rw [eM_1592, va_up_ne _ _ (by decide)]; exact hm_1567
  have hm_1622 : M_1589 45 = some (aI G 6 (nF (fun _ => 0))) := by rw [eM_1592, va_up_ne _ _ (by decide)]; exact hm_1568
  have hm_1623 : M_1589 46 = some (aZ G 6 (bF (fun _ => false))) := by rw [eM_1592, va_up_ne _ _ (by decide)]; exact hm_1569
  have hm_1624 : M_1589 47 = some (aI G 6 (nF (fun _ => 0))) := by rw [eM_1592, va_up_ne _ _ (by decide)]; exact hm_1570
  have hm_1625 : M_1589 48 = some (aI G 6 (nF (fun _ => 0))) := by rw [eM_1592, va_up_ne _ _ (by decide)]; exact hm_1571
  have hm_1626 : M_1589 49 = some (aI G 24 (nF (fun _ => 0))) := by rw [eM_1592, va_up_ne _ _ (by decide)]; exact hm_1572
  have hm_1627 : M_1589 50 = some (aI G 24 (nF (fun _ => 0))) := by rw [eM_1592, va_up_ne _ _ (by decide)]; exact hm_1573
  have hm_1628 : M_1589 30 = some (cQuestion ad_1473 30 0 0) := by rw [eM_1592, va_up_ne _ _ (by decide)]; exact hm_1574
  have hm_1629 : M_1589 31 = some (aI G 6 (nF (fun _ => 0))) := by rw [eM_1592, va_up_ne _ _ (by decide)]; exact hm_1575
  have hm_1630 : M_1589 32 = some (aZ G 6 (bF (fun _ => false))) := by rw [eM_1592, va_up_ne _ _ (by decide)]; exact hm_1576
  have hm_1631 : M_1589 33 = some (aI G 6 (nF (fun _ => 0))) := by rw [eM_1592, va_up_ne _ _ (by decide)]; exact hm_1577
  have hm_1632 : M_1589 34 = some (aI G 6 (nF (fun _ => 0))) := by rw [eM_1592, va_up_ne _ _ (by decide)]; exact hm_1578
  have hm_1633 : M_1589 35 = some (aI G 24 (nF (fun _ => 0))) := by rw [eM_1592, va_up_ne _ _ (by decide)]; exact hm_1579
  have hm_1634 : M_1589 36 = some (aI G 24 (nF (fun _ => 0))) := by rw [eM_1592, va_up_ne _ _ (by decide)]; exact hm_1580
  have hm_1635 : M_1589 37 = some (cQuestion ad_1473 37 0 0) := by rw [eM_1592, va_up_ne _ _ (by decide)]; exact hm_1581
  have hm_1636 : M_1589 38 = some (aI G 6 (nF (fun _ => 0))) := by rw [eM_1592, va_up_ne _ _ (by decide)]; exact hm_1582
  have hm_1637 : M_1589 39 = some (aZ G 6 (bF (fun _ => false))) := by rw [eM_1592, va_up_ne _ _ (by decide)]; exact hm_1583
  have hm_1638 : M_1589 40 = some (aI G 6 (nF (fun _ => 0))) := by rw [eM_1592, va_up_ne _ _ (by decide)]; exact hm_1584
  have hm_1639 : M_1589 41 = some (aI G 6 (nF (fun _ => 0))) := by rw [eM_1592, va_up_ne _ _ (by decide)]; exact hm_1585
  have hm_1640 : M_1589 42 = some (aI G 24 (nF (fun _ => 0))) := by rw [eM_1592, va_up_ne _ _ (by decide)]; exact hm_1586
  have hm_1641 : M_1589 43 = some (aI G 24 (nF (fun _ => 0))) := by rw [eM_1592, va_up_ne _ _ (by decide)]; exact hm_1587
  have hF_1642 : ∀ j : Nat, j ≠ 1 → j ≠ 2 → j ≠ 0 → j ≠ 3 → j ≠ 4 → j ≠ 5 → j ≠ 6 → j ≠ 7 → j ≠ 8 → j ≠ 9 → j ≠ 10 → j ≠ 11 → j ≠ 12 → j ≠ 13 → j ≠ 14 → j ≠ 15 → j ≠ 16 → j ≠ 17 → j ≠ 19 → j ≠ 20 → j ≠ 21 → j ≠ 22 → j ≠ 23 → j ≠ 24 → j ≠ 25 → j ≠ 26 → j ≠ 27 → j ≠ 28 → j ≠ 44 → j ≠ 45 → j ≠ 46 → j ≠ 47 → j ≠ 48 → j ≠ 49 → j ≠ 50 → j ≠ 30 → j ≠ 31 → j ≠ 32 → j ≠ 33 → j ≠ 34 → j ≠ 35 → j ≠ 36 → j ≠ 37 → j ≠ 38 → j ≠ 39 → j ≠ 40 → j ≠ 41 → j ≠ 42 → j ≠ 43 → M_1589 j = M j := fun j q0 q1 q2 q3 q4 q5 q6 q7 q8 q9 q10 q11 q12 q13 q14 q15 q16 q17 q18 q19 q20 q21 q22 q23 q24 q25 q26 q27 q28 q29 q30 q31 q32 q33 q34 q35 q36 q37 q38 q39 q40 q41 q42 q43 q44 q45 q46 q47 q48 => by rw [eM_1592, va_up_ne _ _ q2]; exact hF_1588 j q0 q1 q2 q3 q4 q5 q6 q7 q8 q9 q10 q11 q12 q13 q14 q15 q16 q17 q18 q19 q20 q21 q22 q23 q24 q25 q26 q27 q28 q29 q30 q31 q32 q33 q34 q35 q36 q37 q38 q39 q40 q41 q42 q43 q44 q45 q46 q47 q48
  clear hm_1539 hm_1540 hm_1541 hm_1542 hm_1543 hm_1544 hm_1545 hm_1546 hm_1547 hm_1548 hm_1549 hm_1550 hm_1551 hm_1552 hm_1553 hm_1554 hm_1555 hm_1556 hm_1557 hm_1558 hm_1559 hm_1560 hm_1561 hm_1562 hm_1563 hm_1564 hm_1565 hm_1566 hm_1567 hm_1568 hm_1569 hm_1570 hm_1571 hm_1572 hm_1573 hm_1574 hm_1575 hm_1576 hm_1577 hm_1578 hm_1579 hm_1580 hm_1581 hm_1582 hm_1583 hm_1584 hm_1585 hm_1586 hm_1587 hF_1588
  exact e_Av hx hb hr hlocks hI ⟨mo_245, ho_246, hg_423, lst_424, hm_1593, hm_1594, hm_1595, hm_1596, hm_1597, hm_1598, hm_1599, hm_1600, hm_1601, hm_1602, hm_1603, hm_1604, hm_1605, hm_1606, hm_1607, hm_1608, hm_1609, hm_1610, hm_1611, hm_1612, hm_1613, hm_1614, hm_1615, hm_1616, hm_1617, hm_1618, hm_1619, hm_1620, hm_1621, hm_1622, hm_1623, hm_1624, hm_1625, hm_1626, hm_1627, hm_1628, hm_1629, hm_1630, hm_1631, hm_1632, hm_1633, hm_1634, hm_1635, hm_1636, hm_1637, hm_1638, hm_1639, hm_1640, hm_1641, (fun j q0 q1 q2 q3 q4 q5 q6 q7 q8 q9 q10 q11 q12 q13 q14 q15 q16 q17 q18 q19 q20 q21 q22 q23 q24 q25 q26 q27 q28 q29 q30 q31 q32 q33 q34 q35 q36 q37 q38 q39 q40 q41 q42 q43 q44 q45 q46 q47 q48 => hF_1642 j q1 q2 q0 q3 q4 q5 q6 q7 q8 q9 q10 q11 q12 q13 q14 q15 q16 q17 q18 q19 q20 q21 q22 q23 q24 q25 q26 q27 q28 q29 q30 q31 q32 q33 q34 q35 q36 q37 q38 q39 q40 q41 q42 q43 q44 q45 q46 q47 q48), (fun j q0 q1 q2 q3 q4 q5 q6 q7 q8 q9 q10 q11 q12 q13 q14 q15 q16 q17 q18 q19 q20 q21 q22 q23 q24 q25 q26 q27 q28 q29 q30 q31 q32 q33 q34 q35 q36 q37 q38 q39 q40 q41 q42 q43 q44 q45 q46 q47 => (by show ad_1473 j = ad j; rw [hAd_1490 j q42 q43 q44 q45 q46 q47, hAd_1417 j q41, hAd_1312 j q35 q36 q37 q38 q39 q40, hAd_1239 j q34, hAd_1140 j q22 q23 q24 q25 q26 q27 q28 q29 q30 q31 q32 q33, hAd_1055 j q21, hAd_888 j q20, hAd_781 j q16 q17 q18 q19, hAd_712 j q15, hAd_604 j q12 q13 q14, hAd_537 j q11, hAd_429 j q8 q9 q10, hAd_359 j q7, hAd_252 j q3 q4 q5 q6, hAd_180 j q2, hAd_70 j q1, hAd_7 j q0])), ⟨hP_244, hP_422⟩⟩ dX9_init_108
