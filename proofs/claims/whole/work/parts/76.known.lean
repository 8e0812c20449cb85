def tmS (k : Nat) : Jvm.Term := (match strL[k]? with | some q => .string q.1 q.2.1 | none => .int 0)
abbrev gvC : List Jvm.Cond := flatC (Jvm.Cond.and given_1 narrow_1)

theorem s_ex : ∀ i, i < 20 → Cond.exactly (tmS i) "java/lang/String" ∈ gvC := fun i hi => by
  rcases (by omega : i = 0 ∨ i = 1 ∨ i = 2 ∨ i = 3 ∨ i = 4 ∨ i = 5 ∨ i = 6 ∨ i = 7 ∨ i = 8 ∨ i = 9 ∨ i = 10 ∨ i = 11 ∨ i = 12 ∨ i = 13 ∨ i = 14 ∨ i = 15 ∨ i = 16 ∨ i = 17 ∨ i = 18 ∨ i = 19) with rfl | rfl | rfl | rfl | rfl | rfl | rfl | rfl | rfl | rfl | rfl | rfl | rfl | rfl | rfl | rfl | rfl | rfl | rfl | rfl
  · exact (List.mem_of_getElem? (i := 494) (by decide +kernel))
  · exact (List.mem_of_getElem? (i := 514) (by decide +kernel))
  · exact (List.mem_of_getElem? (i := 535) (by decide +kernel))
  · exact (List.mem_of_getElem? (i := 557) (by decide +kernel))
  · exact (List.mem_of_getElem? (i := 580) (by decide +kernel))
  · exact (List.mem_of_getElem? (i := 455) (by decide +kernel))
  · exact (List.mem_of_getElem? (i := 475) (by decide +kernel))
  · exact (List.mem_of_getElem? (i := 160) (by decide +kernel))
  · exact (List.mem_of_getElem? (i := 239) (by decide +kernel))
  · exact (List.mem_of_getElem? (i := 261) (by decide +kernel))
  · exact (List.mem_of_getElem? (i := 293) (by decide +kernel))
  · exact (List.mem_of_getElem? (i := 324) (by decide +kernel))
  · exact (List.mem_of_getElem? (i := 355) (by decide +kernel))
  · exact (List.mem_of_getElem? (i := 389) (by decide +kernel))
  · exact (List.mem_of_getElem? (i := 422) (by decide +kernel))
  · exact (List.mem_of_getElem? (i := 208) (by decide +kernel))
  · exact (List.mem_of_getElem? (i := 101) (by decide +kernel))
  · exact (List.mem_of_getElem? (i := 76) (by decide +kernel))
  · exact (List.mem_of_getElem? (i := 179) (by decide +kernel))
  · exact (List.mem_of_getElem? (i := 127) (by decide +kernel))
theorem s_co : ∀ i, i < 7 → Cond.eq (.field (tmS i) "java/lang/String" "coder" "B") (.int 0) ∈ gvC := fun i hi => by
  rcases (by omega : i = 0 ∨ i = 1 ∨ i = 2 ∨ i = 3 ∨ i = 4 ∨ i = 5 ∨ i = 6) with rfl | rfl | rfl | rfl | rfl | rfl | rfl
  · exact (List.mem_of_getElem? (i := 495) (by decide +kernel))
  · exact (List.mem_of_getElem? (i := 515) (by decide +kernel))
  · exact (List.mem_of_getElem? (i := 536) (by decide +kernel))
  · exact (List.mem_of_getElem? (i := 558) (by decide +kernel))
  · exact (List.mem_of_getElem? (i := 581) (by decide +kernel))
  · exact (List.mem_of_getElem? (i := 456) (by decide +kernel))
  · exact (List.mem_of_getElem? (i := 476) (by decide +kernel))
theorem s_ar : ∀ i, i < 7 → Cond.arrayOf (.field (tmS i) "java/lang/String" "value" "[B") .byte ∈ gvC := fun i hi => by
  rcases (by omega : i = 0 ∨ i = 1 ∨ i = 2 ∨ i = 3 ∨ i = 4 ∨ i = 5 ∨ i = 6) with rfl | rfl | rfl | rfl | rfl | rfl | rfl
  · exact (List.mem_of_getElem? (i := 496) (by decide +kernel))
  · exact (List.mem_of_getElem? (i := 516) (by decide +kernel))
  · exact (List.mem_of_getElem? (i := 537) (by decide +kernel))
  · exact (List.mem_of_getElem? (i := 559) (by decide +kernel))
  · exact (List.mem_of_getElem? (i := 582) (by decide +kernel))
  · exact (List.mem_of_getElem? (i := 457) (by decide +kernel))
  · exact (List.mem_of_getElem? (i := 477) (by decide +kernel))
theorem s_le : ∀ i, i < 7 → Cond.eq (.length (.field (tmS i) "java/lang/String" "value" "[B")) (.int (Int32.ofNat ([1, 1, 1, 1, 1, 3, 1].getD i 0))) ∈ gvC := fun i hi => by
  rcases (by omega : i = 0 ∨ i = 1 ∨ i = 2 ∨ i = 3 ∨ i = 4 ∨ i = 5 ∨ i = 6) with rfl | rfl | rfl | rfl | rfl | rfl | rfl
  · exact (List.mem_of_getElem? (i := 497) (by decide +kernel))
  · exact (List.mem_of_getElem? (i := 517) (by decide +kernel))
  · exact (List.mem_of_getElem? (i := 538) (by decide +kernel))
  · exact (List.mem_of_getElem? (i := 560) (by decide +kernel))
  · exact (List.mem_of_getElem? (i := 583) (by decide +kernel))
  · exact (List.mem_of_getElem? (i := 458) (by decide +kernel))
  · exact (List.mem_of_getElem? (i := 478) (by decide +kernel))
theorem s_el : ∀ i, i < 7 → ∀ j, j < [1, 1, 1, 1, 1, 3, 1].getD i 0 → Cond.eq (.elem (.field (tmS i) "java/lang/String" "value" "[B") (.int (Int32.ofNat j))) (.int (([[114], [116], [97], [98], [99], [110, 111, 116], [107]].getD i []).getD j 0)) ∈ gvC := fun i hi j hj => by
  rcases (by omega : i = 0 ∨ i = 1 ∨ i = 2 ∨ i = 3 ∨ i = 4 ∨ i = 5 ∨ i = 6) with rfl | rfl | rfl | rfl | rfl | rfl | rfl
  · replace hj : j < 1 := hj
    obtain rfl : j = 0 := by omega
    · exact (List.mem_of_getElem? (i := 498) (by decide +kernel))
  · replace hj : j < 1 := hj
    obtain rfl : j = 0 := by omega
    · exact (List.mem_of_getElem? (i := 518) (by decide +kernel))
  · replace hj : j < 1 := hj
    obtain rfl : j = 0 := by omega
    · exact (List.mem_of_getElem? (i := 539) (by decide +kernel))
  · replace hj : j < 1 := hj
    obtain rfl : j = 0 := by omega
    · exact (List.mem_of_getElem? (i := 561) (by decide +kernel))
  · replace hj : j < 1 := hj
    obtain rfl : j = 0 := by omega
    · exact (List.mem_of_getElem? (i := 584) (by decide +kernel))
  · replace hj : j < 3 := hj
    rcases (by omega : j = 0 ∨ j = 1 ∨ j = 2) with rfl | rfl | rfl
    · exact (List.mem_of_getElem? (i := 459) (by decide +kernel))
    · exact (List.mem_of_getElem? (i := 460) (by decide +kernel))
    · exact (List.mem_of_getElem? (i := 461) (by decide +kernel))
  · replace hj : j < 1 := hj
    obtain rfl : j = 0 := by omega
    · exact (List.mem_of_getElem? (i := 479) (by decide +kernel))
theorem s_ne : ∀ i, i < 7 → ∀ j, j < 7 → i ≠ j → Cond.not (Cond.eq (tmS i) (tmS j)) ∈ gvC ∨ Cond.not (Cond.eq (tmS j) (tmS i)) ∈ gvC := fun i hi j hj hn => by
  rcases (by omega : i = 0 ∨ i = 1 ∨ i = 2 ∨ i = 3 ∨ i = 4 ∨ i = 5 ∨ i = 6) with rfl | rfl | rfl | rfl | rfl | rfl | rfl
  · rcases (by omega : j = 0 ∨ j = 1 ∨ j = 2 ∨ j = 3 ∨ j = 4 ∨ j = 5 ∨ j = 6) with rfl | rfl | rfl | rfl | rfl | rfl | rfl
    · exact absurd rfl hn
    · exact Or.inl (List.mem_of_getElem? (i := 534) (by decide +kernel))
    · exact Or.inl (List.mem_of_getElem? (i := 555) (by decide +kernel))
    · exact Or.inl (List.mem_of_getElem? (i := 577) (by decide +kernel))
    · exact Or.inl (List.mem_of_getElem? (i := 600) (by decide +kernel))
    · exact Or.inr (List.mem_of_getElem? (i := 512) (by decide +kernel))
    · exact Or.inr (List.mem_of_getElem? (i := 513) (by decide +kernel))
  · rcases (by omega : j = 0 ∨ j = 1 ∨ j = 2 ∨ j = 3 ∨ j = 4 ∨ j = 5 ∨ j = 6) with rfl | rfl | rfl | rfl | rfl | rfl | rfl
    · exact Or.inr (List.mem_of_getElem? (i := 534) (by decide +kernel))
    · exact absurd rfl hn
    · exact Or.inl (List.mem_of_getElem? (i := 556) (by decide +kernel))
    · exact Or.inl (List.mem_of_getElem? (i := 578) (by decide +kernel))
    · exact Or.inl (List.mem_of_getElem? (i := 601) (by decide +kernel))
    · exact Or.inr (List.mem_of_getElem? (i := 532) (by decide +kernel))
    · exact Or.inr (List.mem_of_getElem? (i := 533) (by decide +kernel))
  · rcases (by omega : j = 0 ∨ j = 1 ∨ j = 2 ∨ j = 3 ∨ j = 4 ∨ j = 5 ∨ j = 6) with rfl | rfl | rfl | rfl | rfl | rfl | rfl
    · exact Or.inr (List.mem_of_getElem? (i := 555) (by decide +kernel))
    · exact Or.inr (List.mem_of_getElem? (i := 556) (by decide +kernel))
    · exact absurd rfl hn
    · exact Or.inl (List.mem_of_getElem? (i := 579) (by decide +kernel))
    · exact Or.inl (List.mem_of_getElem? (i := 602) (by decide +kernel))
    · exact Or.inr (List.mem_of_getElem? (i := 553) (by decide +kernel))
    · exact Or.inr (List.mem_of_getElem? (i := 554) (by decide +kernel))
  · rcases (by omega : j = 0 ∨ j = 1 ∨ j = 2 ∨ j = 3 ∨ j = 4 ∨ j = 5 ∨ j = 6) with rfl | rfl | rfl | rfl | rfl | rfl | rfl
    · exact Or.inr (List.mem_of_getElem? (i := 577) (by decide +kernel))
    · exact Or.inr (List.mem_of_getElem? (i := 578) (by decide +kernel))
    · exact Or.inr (List.mem_of_getElem? (i := 579) (by decide +kernel))
    · exact absurd rfl hn
    · exact Or.inl (List.mem_of_getElem? (i := 603) (by decide +kernel))
    · exact Or.inr (List.mem_of_getElem? (i := 575) (by decide +kernel))
    · exact Or.inr (List.mem_of_getElem? (i := 576) (by decide +kernel))
  · rcases (by omega : j = 0 ∨ j = 1 ∨ j = 2 ∨ j = 3 ∨ j = 4 ∨ j = 5 ∨ j = 6) with rfl | rfl | rfl | rfl | rfl | rfl | rfl
    · exact Or.inr (List.mem_of_getElem? (i := 600) (by decide +kernel))
    · exact Or.inr (List.mem_of_getElem? (i := 601) (by decide +kernel))
    · exact Or.inr (List.mem_of_getElem? (i := 602) (by decide +kernel))
    · exact Or.inr (List.mem_of_getElem? (i := 603) (by decide +kernel))
    · exact absurd rfl hn
    · exact Or.inr (List.mem_of_getElem? (i := 598) (by decide +kernel))
    · exact Or.inr (List.mem_of_getElem? (i := 599) (by decide +kernel))
  · rcases (by omega : j = 0 ∨ j = 1 ∨ j = 2 ∨ j = 3 ∨ j = 4 ∨ j = 5 ∨ j = 6) with rfl | rfl | rfl | rfl | rfl | rfl | rfl
    · exact Or.inl (List.mem_of_getElem? (i := 512) (by decide +kernel))
    · exact Or.inl (List.mem_of_getElem? (i := 532) (by decide +kernel))
    · exact Or.inl (List.mem_of_getElem? (i := 553) (by decide +kernel))
    · exact Or.inl (List.mem_of_getElem? (i := 575) (by decide +kernel))
    · exact Or.inl (List.mem_of_getElem? (i := 598) (by decide +kernel))
    · exact absurd rfl hn
    · exact Or.inl (List.mem_of_getElem? (i := 493) (by decide +kernel))
  · rcases (by omega : j = 0 ∨ j = 1 ∨ j = 2 ∨ j = 3 ∨ j = 4 ∨ j = 5 ∨ j = 6) with rfl | rfl | rfl | rfl | rfl | rfl | rfl
    · exact Or.inl (List.mem_of_getElem? (i := 513) (by decide +kernel))
    · exact Or.inl (List.mem_of_getElem? (i := 533) (by decide +kernel))
    · exact Or.inl (List.mem_of_getElem? (i := 554) (by decide +kernel))
    · exact Or.inl (List.mem_of_getElem? (i := 576) (by decide +kernel))
    · exact Or.inl (List.mem_of_getElem? (i := 599) (by decide +kernel))
    · exact Or.inr (List.mem_of_getElem? (i := 493) (by decide +kernel))
    · exact absurd rfl hn
theorem start_K {s : State} {b : Nat} (hts : ∀ w ∈ lw_tbl, w.before #[Value.ref b] s = true) (hgv : (Jvm.Cond.and given_1 narrow_1).before #[Value.ref b] s = true) : ∃ G : GG, vK G s.heap.size s := by
  have hg := flat_of_before _ hgv
  have hA : ∀ a : Nat, a < s.heap.size → ¬ fr s.heap.size a := fun a h1 h2 => absurd h1 (Nat.not_lt.mpr h2)
  have hl : ∀ w ∈ lwg, w.before #[Value.ref b] s = true := fun w hw => hts w (List.mem_filter.mp hw).1
  obtain ⟨c0, i0, k0⟩ := u_known (C := RJx4a65c) (T := TJx4a65c) (N := 3) (n := 3) hl iu_Jx4a65c (hts _ t_120)
  obtain ⟨c1, i1, k1⟩ := u_known (C := RX0) (T := TX0) (N := 4) (n := 4) hl iu_X0 (hts _ t_95)
  obtain ⟨c2, i2, k2⟩ := u_known (C := RX1) (T := TX1) (N := 4) (n := 4) hl iu_X1 (hts _ t_56)
  obtain ⟨c3, i3, k3⟩ := u_known (C := RX2) (T := TX2) (N := 4) (n := 4) hl iu_X2 (hts _ t_643)
  obtain ⟨c4, i4, k4⟩ := u_known (C := RX3) (T := TX3) (N := 4) (n := 4) hl iu_X3 (hts _ t_114)
  obtain ⟨c5, i5, k5⟩ := u_known (C := RX4) (T := TX4) (N := 7) (n := 7) hl iu_X4 (hts _ t_178)
  obtain ⟨c6, i6, k6⟩ := u_known (C := RX5) (T := TX5) (N := 4) (n := 4) hl iu_X5 (hts _ t_76)
  obtain ⟨c7, i7, k7⟩ := u_known (C := RX6) (T := TX6) (N := 8) (n := 8) hl iu_X6 (hts _ t_184)
  obtain ⟨c8, i8, k8⟩ := u_known (C := RX7) (T := TX7) (N := 4) (n := 4) hl iu_X7 (hts _ t_159)
  obtain ⟨c9, i9, k9⟩ := u_known (C := RX8) (T := TX8) (N := 2) (n := 2) hl iu_X8 (hts _ t_42)
  obtain ⟨c10, i10, k10⟩ := u_known (C := RX9) (T := TX9) (N := 10) (n := 10) hl iu_X9 (hts _ t_34)
  obtain ⟨c11, i11, k11⟩ := u_known (C := RX10) (T := TX10) (N := 38) (n := 38) hl iu_X10 (hts _ t_1002)
  obtain ⟨a_int, b_int, d_int, f_int, g_int, h_int⟩ := Cond.arrayClass_spec (hts _ t_54)
  obtain ⟨a_boolean, b_boolean, d_boolean, f_boolean, g_boolean, h_boolean⟩ := Cond.arrayClass_spec (hts _ t_74)
  obtain ⟨a_long, b_long, d_long, f_long, g_long, h_long⟩ := Cond.arrayClass_spec (hts _ t_214)
  obtain ⟨a_byte, b_byte, d_byte, f_byte, g_byte, h_byte⟩ := Cond.arrayClass_spec (hts _ t_548)
  obtain ⟨o1, a_o, b_o, f_1, f_2, f_3, f_4, f_5⟩ := Cond.arrayOver_spec (hts _ t_804)
  obtain ⟨adK, adV, hS, hE⟩ := vk_Sof (args := #[Value.ref b]) (s := s) (N := 7) (tm := tmS) (len := [1, 1, 1, 1, 1, 3, 1]) (byt := [[114], [116], [97], [98], [99], [110, 111, 116], [107]]) (A := fr s.heap.size) (by decide) (fun i hi => hg _ (s_ex i (by omega))) (fun i hi => hg _ (s_co i hi)) (fun i hi => hg _ (s_ar i hi)) (fun i hi => hg _ (s_le i hi)) (fun i hi j hj => hg _ (s_el i hi j hj)) (fun i j hi hj hn => (s_ne i hi j hj hn).imp (hg _) (hg _)) hA
  have hR : ∀ k, ∃ a : Nat, k < 20 → (tmS k).eval #[Value.ref b] s none [] s = some (.ref a) := fun k => by
    by_cases hk : k < 20
    · obtain ⟨a, _, _, _, q1, -⟩ := Cond.exactly_spec (args := #[Value.ref b]) (first := s) (o := none) (s := s) (idx := []) (t := tmS k) (cls := "java/lang/String") (hg _ (s_ex k hk))
      exact ⟨a, fun _ => q1⟩
    · exact ⟨0, fun h => absurd h hk⟩
  obtain ⟨adS, hadS⟩ := Classical.axiomOfChoice hR
  have he : ∀ i, i < 7 → adK i = adS i := fun i hi => by
    have h1 := (hE i hi).symm.trans (hadS i (by omega))
    exact Value.ref.inj (Option.some.inj h1)
  have hS2 : vk_S 7 [1, 1, 1, 1, 1, 3, 1] [[114], [116], [97], [98], [99], [110, 111, 116], [107]] adS adV (fr s.heap.size) s s.heap := ⟨fun i hi => by rw [← he i hi]; exact hS.1 i hi, fun i j hi hj h => hS.2 i j hi hj (by rw [he i hi, he j hj]; exact h)⟩
  obtain ⟨t5, ht5, hT5⟩ := va_Tof (args := #[Value.ref b]) (s := s) (tm := .static "java/util/ArrayList" "DEFAULTCAPACITY_EMPTY_ELEMENTDATA" "[Ljava/lang/Object;") (ty := .object "java/lang/Object") (N := 0) (f := fun _ => .null) (A := fr s.heap.size) (by decide) (hg _ (List.mem_of_getElem? (i := 5) (by decide +kernel))) (va_eqt (hg _ (List.mem_of_getElem? (i := 7) (by decide +kernel)))) (fun j hj => absurd hj (Nat.not_lt_zero j)) hA
  refine ⟨((fun k => if k = 0 then c0 else if k = 1 then c1 else if k = 2 then c2 else if k = 3 then c3 else if k = 4 then c4 else if k = 5 then c5 else if k = 6 then c6 else if k = 7 then c7 else if k = 8 then c8 else if k = 9 then c9 else if k = 10 then c10 else c11, fun k => if k = 0 then i0 else if k = 1 then i1 else if k = 2 then i2 else if k = 3 then i3 else if k = 4 then i4 else if k = 5 then i5 else if k = 6 then i6 else if k = 7 then i7 else if k = 8 then i8 else if k = 9 then i9 else if k = 10 then i10 else i11), (fun k => if k = 0 then a_int else if k = 1 then a_boolean else if k = 2 then a_long else if k = 3 then a_byte else a_o), adS, adV, t5), ⟨fun k q hq => ?_, fun k q hq => ?_⟩, ⟨(List.forall_mem_cons.mpr ⟨va_Nw.of rfl (hts _ t_661), (List.forall_mem_cons.mpr ⟨va_Nw.of rfl (hts _ t_664), (List.forall_mem_cons.mpr ⟨va_Nw.of rfl (hts _ t_667), (List.forall_mem_cons.mpr ⟨va_Nw.of rfl (hts _ t_672), (List.forall_mem_cons.mpr ⟨va_Nw.of rfl (hts _ t_671), (List.forall_mem_cons.mpr ⟨va_Nw.of rfl (hts _ t_659), (List.forall_mem_cons.mpr ⟨va_Nw.of rfl (hts _ t_670), (List.forall_mem_cons.mpr ⟨va_Nw.of rfl (hts _ t_663), (List.forall_mem_cons.mpr ⟨va_Nw.of rfl (hts _ t_666), (List.forall_mem_cons.mpr ⟨va_Nw.of rfl (hts _ t_660), (List.forall_mem_cons.mpr ⟨va_Nw.of rfl (hts _ t_658), (List.forall_mem_cons.mpr ⟨va_Nw.of rfl (hts _ t_669), (fun _ h => nomatch h)⟩)⟩)⟩)⟩)⟩)⟩)⟩)⟩)⟩)⟩)⟩)⟩), (List.forall_mem_cons.mpr ⟨va_Nw.of rfl (hts _ t_43), (List.forall_mem_cons.mpr ⟨va_Nw.of rfl (hts _ t_96), (List.forall_mem_cons.mpr ⟨va_Nw.of rfl (hts _ t_115), (List.forall_mem_cons.mpr ⟨va_Nw.of rfl (hts _ t_160), (List.forall_mem_cons.mpr ⟨va_Nw.of rfl (hts _ t_179), (List.forall_mem_cons.mpr ⟨va_Nw.of rfl (hts _ t_238), (List.forall_mem_cons.mpr ⟨va_Nw.of rfl (hts _ t_743), (List.forall_mem_cons.mpr ⟨va_Nw.of rfl (hts _ t_185), (List.forall_mem_cons.mpr ⟨va_Nw.of rfl (hts _ t_418), (fun _ h => nomatch h)⟩)⟩)⟩)⟩)⟩)⟩)⟩)⟩)⟩), (List.forall_mem_cons.mpr ⟨va_Nw.of rfl (hts _ t_1386), (List.forall_mem_cons.mpr ⟨va_Nw.of rfl (hts _ t_482), (List.forall_mem_cons.mpr ⟨va_Nw.of rfl (hts _ t_555), (List.forall_mem_cons.mpr ⟨va_Nw.of rfl (hts _ t_628), (List.forall_mem_cons.mpr ⟨va_Nw.of rfl (hts _ t_874), (fun _ h => nomatch h)⟩)⟩)⟩)⟩)⟩)⟩, fun k q hq => ?_, ⟨vx_Zqof (hts _ t_507) (hts _ t_15) (hg _ (List.mem_of_getElem? (i := 8) (by decide +kernel))) hA, vx_Zqof (hts _ t_509) (hts _ t_15) (hg _ (List.mem_of_getElem? (i := 9) (by decide +kernel))) hA⟩, hS2, va_Zof (hts _ t_132) (hts _ t_9) ht5 hA, hT5, (List.forall_mem_cons.mpr ⟨va_Nw.of rfl (hts _ t_484), (List.forall_mem_cons.mpr ⟨va_Nw.of rfl (hts _ t_486), (List.forall_mem_cons.mpr ⟨va_Nw.of rfl (hts _ t_488), (List.forall_mem_cons.mpr ⟨va_Nw.of rfl (hts _ t_1392), (fun _ h => nomatch h)⟩)⟩)⟩)⟩), (List.forall_mem_cons.mpr ⟨va_Nc.of (hg _ (List.mem_of_getElem? (i := 26) (by decide +kernel))), (List.forall_mem_cons.mpr ⟨va_Nc.of (hg _ (List.mem_of_getElem? (i := 27) (by decide +kernel))), (List.forall_mem_cons.mpr ⟨va_Nc.of (hg _ (List.mem_of_getElem? (i := 42) (by decide +kernel))), (List.forall_mem_cons.mpr ⟨va_Nc.of (hg _ (List.mem_of_getElem? (i := 29) (by decide +kernel))), (fun _ h => nomatch h)⟩)⟩)⟩)⟩), va_AO.of (hts _ t_804), va_Mi.of (hg _ (List.mem_of_getElem? (i := 75) (by decide +kernel))), va_Zof (hts _ t_1259) (hts _ t_28) (va_eqt (hg _ (List.mem_of_getElem? (i := 10) (by decide +kernel)))) hA, va_Zqof (hts _ t_1275) (hts _ t_24) (hg _ (List.mem_of_getElem? (i := 11) (by decide +kernel))) hA⟩
  · match k, hq with
    | 0, hq => cases hq; exact k0
    | 1, hq => cases hq; exact k1
    | 2, hq => cases hq; exact k2
    | 3, hq => cases hq; exact k3
    | 4, hq => cases hq; exact k4
    | 5, hq => cases hq; exact k5
    | 6, hq => cases hq; exact k6
    | 7, hq => cases hq; exact k7
    | 8, hq => cases hq; exact k8
    | 9, hq => cases hq; exact k9
    | 10, hq => cases hq; exact k10
    | 11, hq => cases hq; exact k11
    | k + 12, hq => simp at hq
  · match k, hq with
    | 0, hq => cases hq; exact ⟨fun n z => ⟨fun k h => (by cases h), b_int, g_int, d_int, h_int⟩, f_int⟩
    | 1, hq => cases hq; exact ⟨fun n z => ⟨fun k h => (by cases h), b_boolean, g_boolean, d_boolean, h_boolean⟩, f_boolean⟩
    | 2, hq => cases hq; exact ⟨fun n z => ⟨fun k h => (by cases h), b_long, g_long, d_long, h_long⟩, f_long⟩
    | 3, hq => cases hq; exact ⟨fun n z => ⟨fun k h => (by cases h), b_byte, g_byte, d_byte, h_byte⟩, f_byte⟩
    | 4, hq => cases hq; exact ⟨fun n z => ⟨fun k h => (by cases h), b_o, f_3, o1, f_4⟩, b_o, o1, f_3, f_4, f_1, f_5⟩
    | k + 5, hq => simp at hq
  · match k, hq with
    | 0, hq => cases hq; exact vk_R.of (hts _ t_1309) (hadS 0 (by decide))
    | 1, hq => cases hq; exact vk_R.of (hts _ t_1310) (hadS 1 (by decide))
    | 2, hq => cases hq; exact vk_R.of (hts _ t_1311) (hadS 2 (by decide))
    | 3, hq => cases hq; exact vk_R.of (hts _ t_1312) (hadS 3 (by decide))
    | 4, hq => cases hq; exact vk_R.of (hts _ t_1313) (hadS 4 (by decide))
    | 5, hq => cases hq; exact vk_R.of (hts _ t_1245) (hadS 5 (by decide))
    | 6, hq => cases hq; exact vk_R.of (hts _ t_1296) (hadS 6 (by decide))
    | 7, hq => cases hq; exact vk_R.of (hts _ t_580) (hadS 7 (by decide))
    | 8, hq => cases hq; exact vk_R.of (hts _ t_624) (hadS 8 (by decide))
    | 9, hq => cases hq; exact vk_R.of (hts _ t_625) (hadS 9 (by decide))
    | 10, hq => cases hq; exact vk_R.of (hts _ t_635) (hadS 10 (by decide))
    | 11, hq => cases hq; exact vk_R.of (hts _ t_881) (hadS 11 (by decide))
    | 12, hq => cases hq; exact vk_R.of (hts _ t_895) (hadS 12 (by decide))
    | 13, hq => cases hq; exact vk_R.of (hts _ t_899) (hadS 13 (by decide))
    | 14, hq => cases hq; exact vk_R.of (hts _ t_966) (hadS 14 (by decide))
    | 15, hq => cases hq; exact vk_R.of (hts _ t_611) (hadS 15 (by decide))
    | 16, hq => cases hq; exact vk_R.of (hts _ t_552) (hadS 16 (by decide))
    | 17, hq => cases hq; exact vk_R.of (hts _ t_522) (hadS 17 (by decide))
    | 18, hq => cases hq; exact vk_R.of (hts _ t_607) (hadS 18 (by decide))
    | 19, hq => cases hq; exact vk_R.of (hts _ t_562) (hadS 19 (by decide))
    | k + 20, hq => simp [strL] at hq
