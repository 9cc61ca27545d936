/-! the constants at the start, found -/
theorem kcE_in {t : Term} {N : Nat} {f : Nat → Term} {j : Nat} (h : j < N) : Cond.eq (.elem t (.int (Int32.ofNat j))) (f j) ∈ kcE t N f := List.mem_map.mpr ⟨j, List.mem_range.mpr h, rfl⟩
theorem kc_ne {args : Array Value} {s : State} {t u : Term} {a c : Nat} (ht : t.eval args s none [] s = some (.ref a)) (hu : u.eval args s none [] s = some (.ref c)) (h : a ≠ c) : (Cond.not (.eq t u)).before args s = true := by
  simp [Cond.before, Cond.holds, Cond.value, ht, hu, h]
theorem kc_el {args : Array Value} {s : State} {t u : Term} {a : Nat} (ht : t.eval args s none [] s = some (.ref a)) (hu : u.eval args s none [] s = some (.ref a)) (x : Term) : (Term.elem (.field t "java/lang/String" "value" "[B") x).eval args s none [] s = (Term.elem (.field u "java/lang/String" "value" "[B") x).eval args s none [] s ∧ (Term.length (.field t "java/lang/String" "value" "[B")).eval args s none [] s = (Term.length (.field u "java/lang/String" "value" "[B")).eval args s none [] s := by
  constructor <;> simp only [Term.eval, ht, hu]
theorem kc_str {args : Array Value} {s : State} {A : Nat → Prop} (hs : ∀ c ∈ FL, c.before args s = true) (hA : ∀ a : Nat, a < s.heap.size → ¬ A a) : ∃ adK adV : Nat → Nat, vk_S 21 sln sbt adK adV A s s.heap ∧ ∀ i : Nat, i < 21 → (tmS i).eval args s none [] s = some (.ref (adK i)) := by
  have hex : ∀ i : Nat, i < 21 → (Cond.exactly (tmS i) "java/lang/String").before args s = true := fun i hi => hs _ ((kcS_m i hi).subset (List.mem_append_left _ List.mem_cons_self))
  have hle : ∀ i : Nat, i < 21 → (Cond.eq (.length (tmB i)) (.int (Int32.ofNat (sln.getD i 0)))).before args s = true := fun i hi => hs _ ((kcS_m i hi).subset (List.mem_append_left _ (List.mem_of_getElem? (i := 3) rfl)))
  have hel : ∀ i : Nat, i < 21 → ∀ j : Nat, j < sln.getD i 0 → (Cond.eq (.elem (tmB i) (.int (Int32.ofNat j))) (.int ((sbt.getD i []).getD j 0))).before args s = true := fun i hi j hj => hs _ ((kcS_m i hi).subset (List.mem_append_right _ (kcE_in (f := fun j => .int ((sbt.getD i []).getD j 0)) hj)))
  refine vk_Sof (N := 21) (tm := tmS) (len := sln) (byt := sbt) kcs_l hex (fun i hi => hs _ ((kcS_m i hi).subset (List.mem_append_left _ (List.mem_of_getElem? (i := 1) rfl)))) (fun i hi => hs _ ((kcS_m i hi).subset (List.mem_append_left _ (List.mem_of_getElem? (i := 2) rfl)))) hle hel (fun i j hi hj hij => Or.inl ?_) hA
  obtain ⟨a, ca, cA, kA, q1, -⟩ := Cond.exactly_spec (args := args) (first := s) (o := none) (s := s) (idx := []) (t := tmS i) (cls := "java/lang/String") (hex i hi)
  obtain ⟨c, cc, cC, kC, p1, -⟩ := Cond.exactly_spec (args := args) (first := s) (o := none) (s := s) (idx := []) (t := tmS j) (cls := "java/lang/String") (hex j hj)
  refine kc_ne q1 p1 (fun e => ?_)
  subst e
  have hl := (kc_el q1 p1 (.int 0)).2
  rw [va_eqt (hle i hi), va_eqt (hle j hj)] at hl
  have hl2 : Int32.ofNat (sln.getD i 0) = Int32.ofNat (sln.getD j 0) := by
    injection hl with h1
    injection h1
  have hl3 : sln.getD i 0 = sln.getD j 0 := by
    have b1 := lnZ_r i
    have b2 := lnZ_r j
    unfold lnZ at b1 b2
    have g1 : ∀ n : Nat, n ≤ 9 → ∀ k : Nat, k ≤ 9 → Int32.ofNat n = Int32.ofNat k → n = k := by decide +kernel
    exact g1 _ (by omega) _ (by omega) hl2
  rcases kcs_d i hi j hj hij with h | ⟨k, hk, h⟩
  · exact h hl3
  · have hx := (kc_el q1 p1 (.int (Int32.ofNat k))).1
    rw [va_eqt (hel i hi k hk), va_eqt (hel j hj k (by omega))] at hx
    apply h
    injection hx with h1
    injection h1
theorem kc_nw {args : Array Value} {s : State} (hts : ∀ w ∈ lw_tbl, w.before args s = true) : ∀ w ∈ NW, va_Nw w s := by
  intro w hw
  have hw' : w ∈ (NW.head (by decide)) :: NW.tail := by
    rw [List.cons_head_tail]
    exact hw
  rcases List.mem_cons.mp hw' with e | h
  · rw [e]
    refine va_Nw.of rfl (A := args) ?_
    exact sel_priv (y := ⟨"java/lang/AbstractStringBuilder", "ensureCapacityInternal", "(I)V"⟩) (C := "java/lang/StringBuilder") (n := 4) (by decide +kernel) (hts _ (tl_2 8 rfl)) (hts _ (tl_5 198 rfl)) rfl (hts _ (tl_5 167 rfl)) (hts _ (gw_tbl wq_1128))
  · exact va_Nw.of (NWb_t (NW_b w hw)) (A := args) (hts w (List.mem_append_right _ (kcW_t w h)))
set_option maxHeartbeats 4000000 in
set_option maxRecDepth 100000 in
theorem kc_all {args : Array Value} {s : State} {A : Nat → Prop} (hts : ∀ w ∈ lw_tbl, w.before args s = true) (hgv : (Cond.and given_1 narrow_1).before args s = true) (hA : ∀ a : Nat, a < s.heap.size → ¬ A a) : ∃ ka : Nat → Nat, KC ka A s s.heap := by
  have hs : ∀ c ∈ FL, c.before args s = true := flat_of_before _ hgv
  have hi : ∀ {C : String}, Cond.initialized C ∈ GW → (Cond.initialized C).before args s = true := fun h => hts _ (gw_tbl h)
  obtain ⟨adK, adV, hSt, hev⟩ := kc_str hs hA
  have hv0 : ∀ j : Nat, ∃ a : Nat, j < 10 → (tmV j).eval args s none [] s = some (.ref a) := fun j => by
    by_cases hj : j < 10
    · obtain ⟨a, ca, cA, kA, q1, -⟩ := Cond.exactly_spec (args := args) (first := s) (o := none) (s := s) (idx := []) (t := tmV j) (cls := "BenchBroker$Verb") (hs _ ((kcV_m j hj).subset List.mem_cons_self))
      exact ⟨a, fun _ => q1⟩
    · exact ⟨0, fun h => absurd h hj⟩
  obtain ⟨vb, hvb⟩ := Classical.axiomOfChoice hv0
  obtain ⟨o1, hO, hTO⟩ := va_Tof (tm := tmO) (ty := .byte) (N := 100) (f := fun j => .int (zI (48 + (j : Int) % 10))) (A := A) (by decide) (hs _ (kcO_m.subset (List.mem_append_left _ List.mem_cons_self))) (va_eqt (hs _ (kcO_m.subset (List.mem_append_left _ (List.mem_of_getElem? (i := 1) rfl))))) (fun j hj => va_eqt (hs _ (kcO_m.subset (List.mem_append_right _ (kcE_in (f := fun j => .int (zI (48 + (j : Int) % 10))) hj))))) hA
  obtain ⟨t1, hT, hTT⟩ := va_Tof (tm := tmT) (ty := .byte) (N := 100) (f := fun j => .int (zI (48 + (j : Int) / 10))) (A := A) (by decide) (hs _ (kcT_m.subset (List.mem_append_left _ List.mem_cons_self))) (va_eqt (hs _ (kcT_m.subset (List.mem_append_left _ (List.mem_of_getElem? (i := 1) rfl))))) (fun j hj => va_eqt (hs _ (kcT_m.subset (List.mem_append_right _ (kcE_in (f := fun j => .int (zI (48 + (j : Int) / 10))) hj))))) hA
  obtain ⟨a1, hAl, hTA⟩ := va_Tof (tm := tmA) (ty := .object "BenchBroker$Verb") (N := 10) (f := fun j => .ref (vb j)) (A := A) (by decide) (hs _ (kcA_m.subset (List.mem_append_left _ List.mem_cons_self))) (va_eqt (hs _ (kcA_m.subset (List.mem_append_left _ (List.mem_of_getElem? (i := 1) rfl))))) (fun j hj => va_eqv (hs _ (kcA_m.subset (List.mem_append_right _ (kcE_in (f := fun j => tmV j) hj)))) (hvb j hj)) hA
  obtain ⟨w1, hWl, hTW⟩ := va_Tof (tm := tmW) (ty := .int) (N := 10) (f := fun j => .int (zI ((j : Int) + 1))) (A := A) (by decide) (hs _ (kcW_m.subset (List.mem_append_left _ List.mem_cons_self))) (va_eqt (hs _ (kcW_m.subset (List.mem_append_left _ (List.mem_of_getElem? (i := 1) rfl))))) (fun j hj => va_eqt (hs _ (kcW_m.subset (List.mem_append_right _ (kcE_in (f := fun j => .int (zI ((j : Int) + 1))) hj))))) hA
  obtain ⟨ka, hka⟩ : ∃ ka : Nat → Nat, ka = fun k => if k < 10 then ([o1, t1, a1, w1] : List Nat).getD k 0 else if k < 20 then vb (k - 10) else if k < 50 then adK (k - 20) else adV (k - 50) := ⟨_, rfl⟩
  have k0 : ka 0 = o1 := by rw [hka]; rfl
  have k1 : ka 1 = t1 := by rw [hka]; rfl
  have k2 : ka 2 = a1 := by rw [hka]; rfl
  have k3 : ka 3 = w1 := by rw [hka]; rfl
  have e10 : ∀ j : Nat, j < 10 → ka (10 + j) = vb j := fun j hj => by
    rw [hka]
    show (if 10 + j < 10 then _ else if 10 + j < 20 then vb (10 + j - 10) else _) = _
    rw [if_neg (by omega), if_pos (by omega), Nat.add_sub_cancel_left]
  have e20 : ∀ j : Nat, j < 30 → ka (20 + j) = adK j := fun j hj => by
    rw [hka]
    show (if 20 + j < 10 then _ else if 20 + j < 20 then _ else if 20 + j < 50 then adK (20 + j - 20) else _) = _
    rw [if_neg (by omega), if_neg (by omega), if_pos (by omega), Nat.add_sub_cancel_left]
  have e50 : ∀ j : Nat, ka (50 + j) = adV j := fun j => by
    rw [hka]
    show (if 50 + j < 10 then _ else if 50 + j < 20 then _ else if 50 + j < 50 then _ else adV (50 + j - 50)) = _
    rw [if_neg (by omega), if_neg (by omega), if_neg (by omega), Nat.add_sub_cancel_left]
  have hmr : ∀ {k : Nat} {x : String} (j : Nat), j < 21 → tms.getD j ("", 0) = ("BenchBrokerModel", k) → (Cond.stringRef "BenchBrokerModel" k x).before args s = true → vk_R "BenchBrokerModel" k x (ka (20 + j)) s := fun j hj e h => by
    refine vk_R.of h ?_
    rw [e20 j (by omega)]
    have h9 := hev j hj
    unfold tmS at h9
    rw [e] at h9
    exact h9
  have hHC : HC ka A s s.heap := by
    refine ⟨vx_Zqof (hts _ (tl_3 52 rfl)) (hi wq_16) (hs _ (kc1_m.subset (List.mem_of_getElem? (i := 1) rfl))) hA, vx_Zqof (hts _ (tl_3 54 rfl)) (hi wq_16) (hs _ (kc1_m.subset (List.mem_of_getElem? (i := 2) rfl))) hA, va_Zof (hts _ (tl_2 17 rfl)) (hi wq_13) (va_eqt (hs _ (kc1_m.subset List.mem_cons_self))) hA, ?_, ?_, ?_, ?_, fun j hj => ?_, ⟨fun i h => ?_, fun i j h1 h2 e => ?_⟩, ?_, va_Zqof (hts _ (tl_5 213 rfl)) (hi wq_29) (hs _ (kc1_m.subset (List.mem_of_getElem? (i := 3) rfl))) hA⟩
    · rw [k0]
      exact ⟨va_Zof (hts _ (tl_6 43 rfl)) (hi wq_32) hO hA, hTO⟩
    · rw [k1]
      exact ⟨va_Zof (hts _ (tl_6 45 rfl)) (hi wq_32) hT hA, hTT⟩
    · rw [k2]
      refine ⟨va_Zof (hts _ (tl_7 9 rfl)) (hi wq_10) hAl hA, ?_⟩
      obtain ⟨cell, c1, c2, c3, c4, c5, c6, c7⟩ := hTA
      exact ⟨cell, c1, c2, c3, c4, c5, fun j hj => (c6 j hj).trans (congrArg (fun a9 => some (Value.ref a9)) (e10 j hj).symm), c7⟩
    · rw [k3]
      exact ⟨va_Zof (hts _ (tl_7 58 rfl)) (hi wq_34) hWl hA, hTW⟩
    · rw [e10 j hj, e20 j (by omega)]
      have hm := fun (k : Nat) (c : Cond) (h : (kcV j)[k]? = some c) => hs c ((kcV_m j hj).subset (List.mem_of_getElem? h))
      exact ⟨va_Oof (hm 0 _ rfl) (hvb j hj) hA, vk_OFof (hvb j hj) (va_eqv (hm 2 _ rfl) (hev j (by omega))) hA, vk_OFof (hvb j hj) (va_eqt (hm 3 _ rfl)) hA, vk_OFof (hvb j hj) (va_eqt (hm 4 _ rfl)) hA, vk_OFof (hvb j hj) (va_eqt (hm 1 _ rfl)) hA⟩
    · show va_O "java/lang/String" (ka (20 + i)) A s s.heap ∧ va_OF "java/lang/String" "coder" "B" (.int 0) (ka (20 + i)) A s s.heap ∧ va_OF "java/lang/String" "value" "[B" (.ref (ka (50 + i))) (ka (20 + i)) A s s.heap ∧ va_T .byte (ka (50 + i)) (sln.getD i 0) (fun j => .int ((sbt.getD i []).getD j 0)) A s s.heap
      rw [e20 i (by omega), e50 i]
      exact hSt.1 i h
    · have e : ka (20 + i) = ka (20 + j) := e
      rw [e20 i (by omega), e20 j (by omega)] at e
      exact hSt.2 i j h1 h2 e
    · have h9 := e10 0 (by decide)
      rw [show ka 10 = vb 0 from h9]
      exact va_Zof (hts _ (tl_1 224 rfl)) (hi wq_10) (hvb 0 (by decide)) hA
  exact ⟨ka, kc_nw hts, fun q hq => va_Nc.of (hs _ (kcN_m q hq)), ⟨hmr 11 (by decide) rfl (hts _ (tl_9 122 rfl)), hmr 10 (by decide) rfl (hts _ (tl_9 137 rfl)), hmr 12 (by decide) rfl (hts _ (tl_9 138 rfl)), hmr 13 (by decide) rfl (hts _ (tl_9 139 rfl)), hmr 14 (by decide) rfl (hts _ (tl_9 140 rfl)), hmr 15 (by decide) rfl (hts _ (tl_9 141 rfl)), hmr 16 (by decide) rfl (hts _ (tl_9 142 rfl)), hmr 17 (by decide) rfl (hts _ (tl_9 143 rfl)), hmr 18 (by decide) rfl (hts _ (tl_9 144 rfl)), hmr 19 (by decide) rfl (hts _ (tl_9 145 rfl)), hmr 20 (by decide) rfl (hts _ (tl_9 146 rfl))⟩, hHC⟩
