/-! the constants at the start, found -/
theorem kcE_in {t : Term} {N : Nat} {f : Nat → Term} {j : Nat} (h : j < N) : Cond.eq (.elem t (.int (Int32.ofNat j))) (f j) ∈ kcE t N f := List.mem_map.mpr ⟨j, List.mem_range.mpr h, rfl⟩
theorem kc_str {args : Array Value} {s : State} {A : Nat → Prop} (hs : ∀ c ∈ FL, c.before args s = true) (hA : ∀ a : Nat, a < s.heap.size → ¬ A a) : ∃ adK adV : Nat → Nat, ∀ i : Nat, okS i → (tmS i).eval args s none [] s = some (.ref (adK i)) ∧ va_O "java/lang/String" (adK i) A s s.heap ∧ va_OF "java/lang/String" "coder" "B" (.int 0) (adK i) A s s.heap ∧ va_OF "java/lang/String" "value" "[B" (.ref (adV i)) (adK i) A s s.heap ∧ va_T .byte (adV i) (sln.getD i 0) (fun j => .int ((sbt.getD i []).getD j 0)) A s s.heap := by
  have key : ∀ i : Nat, ∃ ab : Nat × Nat, okS i → (tmS i).eval args s none [] s = some (.ref ab.1) ∧ va_O "java/lang/String" ab.1 A s s.heap ∧ va_OF "java/lang/String" "coder" "B" (.int 0) ab.1 A s s.heap ∧ va_OF "java/lang/String" "value" "[B" (.ref ab.2) ab.1 A s s.heap ∧ va_T .byte ab.2 (sln.getD i 0) (fun j => .int ((sbt.getD i []).getD j 0)) A s s.heap := fun i => by
    by_cases hi : okS i
    · have hi27 : i < 27 := by rcases hi with q | q <;> omega
      have hm := fun (k : Nat) (c : Cond) (h : (kcS i)[k]? = some c) => hs c ((kcS_m i hi27 hi).subset (List.mem_of_getElem? h))
      obtain ⟨a, ca, cA, kA, q1, -⟩ := Cond.exactly_spec (args := args) (first := s) (o := none) (s := s) (idx := []) (t := tmS i) (cls := "java/lang/String") (hm 0 _ rfl)
      have hN : sln.getD i 0 < 2147483648 := by have h9 := lnZ_r i; unfold lnZ at h9; omega
      obtain ⟨v, hv, hT⟩ := va_Tof (tm := tmB i) (ty := .byte) (N := sln.getD i 0) (f := fun j => .int ((sbt.getD i []).getD j 0)) (A := A) hN (hm 2 _ rfl) (va_eqt (hm 3 _ rfl)) (fun j hj => va_eqt (hs _ ((kcS_m i hi27 hi).subset (List.mem_append_right _ (kcE_in (f := fun j => .int ((sbt.getD i []).getD j 0)) hj))))) hA
      exact ⟨(a, v), fun _ => ⟨q1, va_Oof (hm 0 _ rfl) q1 hA, vk_OFof q1 (va_eqt (hm 1 _ rfl)) hA, vk_OFof q1 hv hA, hT⟩⟩
    · exact ⟨(0, 0), fun h => absurd h hi⟩
  obtain ⟨f, hf⟩ := Classical.axiomOfChoice key
  exact ⟨fun i => (f i).1, fun i => (f i).2, hf⟩
theorem kc_nw {args : Array Value} {s : State} (hts : ∀ w ∈ lw_tbl, w.before args s = true) : ∀ w ∈ NW, va_Nw w s := by
  intro w hw
  have h0 := sel_priv (y := ⟨"java/lang/AbstractStringBuilder", "ensureCapacityInternal", "(I)V"⟩) (C := "java/lang/StringBuilder") (n := 4) (by decide +kernel) (hts _ (tl_2 7 rfl)) (hts _ (tl_4 177 rfl)) rfl (hts _ (tl_4 146 rfl)) (hts _ (gw_tbl wq_867))
  have h1 := sel_priv (y := ⟨"java/lang/AbstractStringBuilder", "putStringAt", "(ILjava/lang/String;)V"⟩) (C := "java/lang/StringBuilder") (n := 4) (by decide +kernel) (hts _ (tl_2 7 rfl)) (hts _ (tl_4 177 rfl)) rfl (hts _ (tl_4 215 rfl)) (hts _ (gw_tbl wq_936))
  have h2 := sel_priv (y := ⟨"java/lang/AbstractStringBuilder", "inflateIfNeededFor", "(Ljava/lang/String;)V"⟩) (C := "java/lang/StringBuilder") (n := 4) (by decide +kernel) (hts _ (tl_2 7 rfl)) (hts _ (tl_4 177 rfl)) rfl (hts _ (tl_4 219 rfl)) (hts _ (gw_tbl wq_940))
  have h3 := sel_priv (y := ⟨"java/lang/AbstractStringBuilder", "newCapacity", "(I)I"⟩) (C := "java/lang/StringBuilder") (n := 4) (by decide +kernel) (hts _ (tl_2 7 rfl)) (hts _ (tl_4 177 rfl)) rfl (hts _ (tl_4 150 rfl)) (hts _ (gw_tbl wq_871))
  have hw' : w ∈ NW.take 4 ++ NW.drop 4 := by
    rw [List.take_append_drop]
    exact hw
  rcases List.mem_append.mp hw' with h | h
  · rcases List.mem_cons.mp h with e | h
    · rw [e]
      exact va_Nw.of rfl (A := args) h0
    · rcases List.mem_cons.mp h with e | h
      · rw [e]
        exact va_Nw.of rfl (A := args) h1
      · rcases List.mem_cons.mp h with e | h
        · rw [e]
          exact va_Nw.of rfl (A := args) h2
        · rw [List.mem_singleton.mp h]
          exact va_Nw.of rfl (A := args) h3
  · exact va_Nw.of (NWb_t (NW_b w hw)) (A := args) (hts w (List.mem_append_right _ (kcW_t w h)))
set_option maxHeartbeats 4000000 in
set_option maxRecDepth 100000 in
theorem kc_all {args : Array Value} {s : State} {A : Nat → Prop} {b L : Nat} {xs : Nat → Int32} (hL : L ≤ 260) (hX : va_X b L xs s s.heap) (hbl : b < s.heap.size) (hts : ∀ w ∈ lw_tbl, w.before args s = true) (hgv : (Cond.and given_1 narrow_1).before args s = true) (hA : ∀ a : Nat, a < s.heap.size → ¬ A a) : ∃ ka : Nat → Nat, ka 4 = b ∧ KC ka A s s.heap := by
  have hs : ∀ c ∈ FL, c.before args s = true := flat_of_before _ hgv
  have hi : ∀ {C : String}, Cond.initialized C ∈ GW → (Cond.initialized C).before args s = true := fun h => hts _ (gw_tbl h)
  obtain ⟨adK, adV, hSt⟩ := kc_str hs hA
  have hv0 : ∀ j : Nat, ∃ a : Nat, j < 10 → (tmV j).eval args s none [] s = some (.ref a) := fun j => by
    by_cases hj : j < 10
    · obtain ⟨a, ca, cA, kA, q1, -⟩ := Cond.exactly_spec (args := args) (first := s) (o := none) (s := s) (idx := []) (t := tmV j) (cls := "BenchBroker$Verb") (hs _ ((kcV_m j hj).subset List.mem_cons_self))
      exact ⟨a, fun _ => q1⟩
    · exact ⟨0, fun h => absurd h hj⟩
  obtain ⟨vb, hvb⟩ := Classical.axiomOfChoice hv0
  obtain ⟨o1, hO, hTO⟩ := va_Tof (tm := tmO) (ty := .byte) (N := 100) (f := fun j => .int (zI (48 + (j : Int) % 10))) (A := A) (by decide) (hs _ (kcO_m.subset (List.mem_append_left _ List.mem_cons_self))) (va_eqt (hs _ (kcO_m.subset (List.mem_append_left _ (List.mem_of_getElem? (i := 1) rfl))))) (fun j hj => va_eqt (hs _ (kcO_m.subset (List.mem_append_right _ (kcE_in (f := fun j => .int (zI (48 + (j : Int) % 10))) hj))))) hA
  obtain ⟨t1, hT, hTT⟩ := va_Tof (tm := tmT) (ty := .byte) (N := 100) (f := fun j => .int (zI (48 + (j : Int) / 10))) (A := A) (by decide) (hs _ (kcT_m.subset (List.mem_append_left _ List.mem_cons_self))) (va_eqt (hs _ (kcT_m.subset (List.mem_append_left _ (List.mem_of_getElem? (i := 1) rfl))))) (fun j hj => va_eqt (hs _ (kcT_m.subset (List.mem_append_right _ (kcE_in (f := fun j => .int (zI (48 + (j : Int) / 10))) hj))))) hA
  obtain ⟨a1, hAl, hTA⟩ := va_Tof (tm := tmA) (ty := .object "BenchBroker$Verb") (N := 10) (f := fun j => .ref (vb j)) (A := A) (by decide) (hs _ (kcA_m.subset (List.mem_append_left _ List.mem_cons_self))) (va_eqt (hs _ (kcA_m.subset (List.mem_append_left _ (List.mem_of_getElem? (i := 1) rfl))))) (fun j hj => va_eqv (hs _ (kcA_m.subset (List.mem_append_right _ (kcE_in (f := fun j => tmV j) hj)))) (hvb j hj)) hA
  obtain ⟨w1, hWl, hTW⟩ := va_Tof (tm := tmW) (ty := .int) (N := 10) (f := fun j => .int (zI ((j : Int) + 1))) (A := A) (by decide) (hs _ (kcW_m.subset (List.mem_append_left _ List.mem_cons_self))) (va_eqt (hs _ (kcW_m.subset (List.mem_append_left _ (List.mem_of_getElem? (i := 1) rfl))))) (fun j hj => va_eqt (hs _ (kcW_m.subset (List.mem_append_right _ (kcE_in (f := fun j => .int (zI ((j : Int) + 1))) hj))))) hA
  obtain ⟨ka, hka⟩ : ∃ ka : Nat → Nat, ka = fun k => if k < 10 then ([o1, t1, a1, w1, b] : List Nat).getD k 0 else if k < 20 then vb (k - 10) else if k < 50 then adK (k - 20) else adV (k - 50) := ⟨_, rfl⟩
  have k0 : ka 0 = o1 := by rw [hka]; rfl
  have k1 : ka 1 = t1 := by rw [hka]; rfl
  have k2 : ka 2 = a1 := by rw [hka]; rfl
  have k3 : ka 3 = w1 := by rw [hka]; rfl
  have k4 : ka 4 = b := by rw [hka]; rfl
  have e10 : ∀ j : Nat, j < 10 → ka (10 + j) = vb j := fun j hj => by
    rw [hka]
    show (if 10 + j < 10 then _ else if 10 + j < 20 then vb (10 + j - 10) else _) = _
    rw [if_neg (by omega), if_pos (by omega), Nat.add_sub_cancel_left]
  have e20 : ∀ j : Nat, j < 30 → ka (20 + j) = adK j := fun j hj => by
    rw [hka]
    show (if 20 + j < 10 then _ else if 20 + j < 20 then _ else if 20 + j < 50 then adK (20 + j - 20) else _) = _
    rw [if_neg (by omega), if_neg (by omega), if_pos (by omega), Nat.add_sub_cancel_left]
  have e50 : ∀ j : Nat, ka (50 + j) = adV j := fun j => by
    rw [hka]
    show (if 50 + j < 10 then _ else if 50 + j < 20 then _ else if 50 + j < 50 then _ else adV (50 + j - 50)) = _
    rw [if_neg (by omega), if_neg (by omega), if_neg (by omega), Nat.add_sub_cancel_left]
  have hmr : ∀ {k : Nat} {x : String} (j : Nat), okS j → tms.getD j ("", 0) = ("BenchBrokerLaw", k) → (Cond.stringRef "BenchBrokerLaw" k x).before args s = true → vk_R "BenchBrokerLaw" k x (ka (20 + j)) s := fun j hj e h => by
    refine vk_R.of h ?_
    rw [e20 j (by rcases hj with q | q <;> omega)]
    have h9 := (hSt j hj).1
    unfold tmS at h9
    rw [e] at h9
    exact h9
  have hHC : HC ka A s s.heap := by
    refine ⟨vx_Zqof (hts _ (tl_2 119 rfl)) (hi wq_15) (hs _ (kc1_m.subset (List.mem_of_getElem? (i := 1) rfl))) hA, vx_Zqof (hts _ (tl_2 121 rfl)) (hi wq_15) (hs _ (kc1_m.subset (List.mem_of_getElem? (i := 2) rfl))) hA, va_Zof (hts _ (tl_2 16 rfl)) (hi wq_13) (va_eqt (hs _ (kc1_m.subset List.mem_cons_self))) hA, ?_, ?_, ?_, ?_, fun j hj => ?_, fun i h => ?_, ?_, va_Zqof (hts _ (tl_4 192 rfl)) (hi wq_25) (hs _ (kc1_m.subset (List.mem_of_getElem? (i := 3) rfl))) hA, ?_⟩
    · rw [k0]
      exact ⟨va_Zof (hts _ (tl_5 22 rfl)) (hi wq_28) hO hA, hTO⟩
    · rw [k1]
      exact ⟨va_Zof (hts _ (tl_5 24 rfl)) (hi wq_28) hT hA, hTT⟩
    · rw [k2]
      refine ⟨va_Zof (hts _ (tl_5 176 rfl)) (hi wq_10) hAl hA, ?_⟩
      obtain ⟨cell, c1, c2, c3, c4, c5, c6, c7⟩ := hTA
      exact ⟨cell, c1, c2, c3, c4, c5, fun j hj => (c6 j hj).trans (congrArg (fun a9 => some (Value.ref a9)) (e10 j hj).symm), c7⟩
    · rw [k3]
      exact ⟨va_Zof (hts _ (tl_5 211 rfl)) (hi wq_32) hWl hA, hTW⟩
    · rw [e10 j hj, e20 j (by omega)]
      have hm := fun (k : Nat) (c : Cond) (h : (kcV j)[k]? = some c) => hs c ((kcV_m j hj).subset (List.mem_of_getElem? h))
      exact ⟨va_Oof (hm 0 _ rfl) (hvb j hj) hA, vk_OFof (hvb j hj) (va_eqv (hm 2 _ rfl) (hSt j (Or.inl (by omega))).1) hA, vk_OFof (hvb j hj) (va_eqt (hm 3 _ rfl)) hA, vk_OFof (hvb j hj) (va_eqt (hm 4 _ rfl)) hA, vk_OFof (hvb j hj) (va_eqt (hm 1 _ rfl)) hA⟩
    · rw [e20 i (by rcases h with q | q <;> omega), e50 i]
      exact (hSt i h).2
    · have h9 := e10 0 (by decide)
      rw [show ka 10 = vb 0 from h9]
      exact va_Zof (hts _ (tl_1 223 rfl)) (hi wq_10) (hvb 0 (by decide)) hA
    · obtain ⟨scr, x1, x2, x3, x4, x5⟩ := hX
      refine ⟨L, xs, hL, ?_⟩
      rw [k4]
      exact ⟨scr, x1, x2, x3, Nat.le_of_eq x4.symm, by rw [x4], x5, hA b hbl⟩
  exact ⟨ka, k4, kc_nw hts, fun q hq => va_Nc.of (hs _ (kcN_m q hq)), ⟨hmr 21 (by decide) rfl (hts _ (tl_4 133 rfl)), hmr 22 (by decide) rfl (hts _ (tl_5 33 rfl)), hmr 10 (by decide) rfl (hts _ (tl_5 34 rfl)), hmr 23 (by decide) rfl (hts _ (tl_5 35 rfl)), hmr 24 (by decide) rfl (hts _ (tl_5 102 rfl)), hmr 25 (by decide) rfl (hts _ (tl_5 103 rfl)), hmr 26 (by decide) rfl (hts _ (tl_5 104 rfl))⟩, hHC⟩
