/-! the law's own methods: text, commands, undo, snapshot, doubles -/

theorem prF_b {T : Int → Int} {n : Int} (hn : 0 ≤ n) : ∀ (f j : Nat), stZ T n j ≤ n → 0 ≤ stZ T n j → (prsF T n f j).1 = 1 → 0 ≤ (prsF T n f j).2 ∧ (prsF T n f j).2 ≤ n
  | 0, j, _, _, _ => ⟨Int.le_refl 0, hn⟩
  | f + 1, j, h1, h0, h => by
    have hb := cmdR_b (T := T) h1
    have e : prsF T n (f + 1) j = (if (cmdR T n (stZ T n j)).1 ≠ 0 then (1, (cmdR T n (stZ T n j)).2.1) else if chA T n (cmdR T n (stZ T n j)).2.1 = 59 then prsF T n f (j + 1) else if (cmdR T n (stZ T n j)).2.1 < n then (1, (cmdR T n (stZ T n j)).2.1) else (0, (j : Int) + 1)) := rfl
    rw [e] at h ⊢
    by_cases c : (cmdR T n (stZ T n j)).1 ≠ 0
    · rw [if_pos c]
      exact ⟨by show 0 ≤ (cmdR T n (stZ T n j)).2.1; omega, by show (cmdR T n (stZ T n j)).2.1 ≤ n; omega⟩
    · rw [if_neg c] at h ⊢
      by_cases c2 : chA T n (cmdR T n (stZ T n j)).2.1 = 59
      · rw [if_pos c2] at h ⊢
        have hlt := chA_lt c2 (by decide)
        have es : stZ T n (j + 1) = (cmdR T n (stZ T n j)).2.1 + 1 := rfl
        exact prF_b hn f (j + 1) (by rw [es]; omega) (by rw [es]; omega) h
      · rw [if_neg c2] at h ⊢
        by_cases c3 : (cmdR T n (stZ T n j)).2.1 < n
        · rw [if_pos c3]
          exact ⟨by show 0 ≤ (cmdR T n (stZ T n j)).2.1; omega, by show (cmdR T n (stZ T n j)).2.1 ≤ n; omega⟩
        · rw [if_neg c3] at h
          exact absurd (show (0 : Int) = 1 from h) (by decide)
theorem exZ_b {n : Int} {S : St} (T : Int → Int) {k : Int} (h : Inv n S) (hn : n + 3100 ≤ 4000000) (hk : 0 ≤ k ∧ k ≤ 60) : Inv (n + 3100) (exZ S T k).2.2.2 ∧ ((exZ S T k).1 ≠ 0 → (exZ S T k).2.2.2 = S) ∧ ((exZ S T k).1 = 1 → 0 ≤ (exZ S T k).2.1 ∧ (exZ S T k).2.1 ≤ 60) ∧ ((exZ S T k).1 = 3 → 1 ≤ (exZ S T k).2.2.1 ∧ (exZ S T k).2.2.1 ≤ 11) ∧ (0 ≤ (exZ S T k).1 ∧ (exZ S T k).1 ≤ 3) := by
  have h0 := h.mono (show n ≤ n + 3100 by omega) hn
  have hr := runF_b (T := T) (n := k) (v := (prsZ T k).2) 31 0 h (by omega)
  unfold exZ
  by_cases c : (prsZ T k).1 ≠ 0
  · rw [if_pos c]
    have c1 : (prsZ T k).1 = 1 := by have := prs_01 T k; omega
    have hb := prF_b (T := T) hk.1 31 0 hk.1 (Int.le_refl 0) c1
    exact ⟨h0, fun _ => rfl, fun _ => ⟨hb.1, by have : (prsZ T k).2 ≤ k := hb.2; show (prsZ T k).2 ≤ 60; omega⟩, fun q => absurd (show (1 : Int) = 3 from q) (by decide), by show (0 : Int) ≤ 1 ∧ (1 : Int) ≤ 3; decide⟩
  · rw [if_neg c]
    by_cases c2 : (runF T k (prsZ T k).2 31 0 S).1 = -1
    · rw [if_pos c2]
      exact ⟨hr.1.mono (by omega) hn, fun q => absurd rfl q, fun q => absurd (show (0 : Int) = 1 from q) (by decide), fun q => absurd (show (0 : Int) = 3 from q) (by decide), by show (0 : Int) ≤ 0 ∧ (0 : Int) ≤ 3; decide⟩
    · rw [if_neg c2]
      have h2 : (-2 ≤ (runF T k (prsZ T k).2 31 0 S).2.1 ∧ (runF T k (prsZ T k).2 31 0 S).2.1 ≤ 11) ∧ (runF T k (prsZ T k).2 31 0 S).2.1 ≠ 0 := hr.2.elim (fun q => absurd q.1 c2) (fun q => q.2)
      by_cases c3 : (runF T k (prsZ T k).2 31 0 S).2.1 < 0
      · rw [if_pos c3]
        exact ⟨h0, fun _ => rfl, fun q => absurd (show (2 : Int) = 1 from q) (by decide), fun q => absurd (show (2 : Int) = 3 from q) (by decide), by show (0 : Int) ≤ 2 ∧ (2 : Int) ≤ 3; decide⟩
      · rw [if_neg c3]
        exact ⟨h0, fun _ => rfl, fun q => absurd (show (3 : Int) = 1 from q) (by decide), fun _ => ⟨by show 1 ≤ (runF T k (prsZ T k).2 31 0 S).2.1; omega, by show (runF T k (prsZ T k).2 31 0 S).2.1 ≤ 11; omega⟩, by show (0 : Int) ≤ 3 ∧ (3 : Int) ≤ 3; decide⟩
theorem wrY_g : ∀ (L : List Int) (Y : Int → Int) (p : Int) (i : Nat) (h : i < L.length), wrY Y p L (p + (i : Int)) = L[i]
  | [], Y, p, i, h => absurd h (Nat.not_lt_zero _)
  | x :: L, Y, p, 0, h => by
    have key : ∀ (L : List Int) (Y : Int → Int) (q z : Int), z < q → wrY Y q L z = Y z := fun L => by
      induction L with
      | nil => exact fun Y q z _ => rfl
      | cons y L ih =>
        intro Y q z hz
        show wrY (upZ Y q y) (q + 1) L z = _
        rw [ih _ _ _ (by omega)]
        exact if_neg (by omega)
    show wrY (upZ Y p x) (p + 1) L (p + ((0 : Nat) : Int)) = x
    rw [key _ _ _ _ (by omega)]
    exact if_pos (by omega)
  | x :: L, Y, p, i + 1, h => by
    show wrY (upZ Y p x) (p + 1) L (p + ((i + 1 : Nat) : Int)) = L[i]'(Nat.lt_of_succ_lt_succ h)
    rw [show p + ((i + 1 : Nat) : Int) = (p + 1) + (i : Int) by omega]
    exact wrY_g L (upZ Y p x) (p + 1) i (Nat.lt_of_succ_lt_succ h)
theorem wrY_b {L : List Int} (hL : ∀ x ∈ L, 0 ≤ x ∧ x ≤ 126) : ∀ (Y : Int → Int) (p : Int), y7Z Y → y7Z (wrY Y p L) := by
  induction L with
  | nil => exact fun Y p h => h
  | cons x L ih =>
    intro Y p h
    refine ih (fun y hy => hL y (List.mem_cons_of_mem _ hy)) _ _ (fun z h1 h2 => ?_)
    unfold upZ
    split
    · exact hL x List.mem_cons_self
    · exact h z h1 h2
theorem rtx_b {S : St} (hI : Bd S) (r : Int) : ∀ n : Nat, ∀ y ∈ rtx S r n, 0 ≤ y ∧ y ≤ 126
  | 0, y, hy => absurd hy List.not_mem_nil
  | n + 1, y, hy => by
    have hy : y ∈ rtx S r n ++ [sgnZ S r n] := hy
    rcases List.mem_append.mp hy with h | h
    · exact rtx_b hI r n y h
    · rw [List.mem_singleton.mp h]
      exact sgn_r hI r n
theorem rtx_g (S : St) (r : Int) : ∀ (n : Nat) (i : Nat) (h : i < (rtx S r n).length), (rtx S r n)[i] = sgnZ S r i
  | 0, i, h => absurd h (Nat.not_lt_zero i)
  | n + 1, i, h => by
    have hl := rtx_ll S r n
    have h' : i < (rtx S r n ++ [sgnZ S r n]).length := h
    show (rtx S r n ++ [sgnZ S r n])[i] = _
    by_cases c : i < n
    · rw [List.getElem_append_left (by omega)]
      exact rtx_g S r n i (by omega)
    · rw [List.length_append, hl] at h'
      have e : i = n := by simp at h'; omega
      subst e
      rw [List.getElem_append_right (by omega)]
      simp [hl]
theorem rtx_w (S : St) (r : Int) (Y : Int → Int) (z : Int) (h0 : 0 ≤ z) (h6 : z < 6) : wrY Y 0 (rtx S r 6) z = sgnZ S r z := by
  have hl := rtx_ll S r 6
  have h := wrY_g (rtx S r 6) Y 0 z.toNat (by omega)
  rw [show (0 : Int) + (z.toNat : Int) = z by omega] at h
  rw [h, rtx_g S r 6 z.toNat (by omega), show ((z.toNat : Nat) : Int) = z by omega]

theorem wqL_outputAt : (Jvm.Cond.codeWith ({ cls := "BenchBrokerLaw", name := "outputAt", desc := "(LBenchBroker;I)I" } : Jvm.MethodName) method_43_code (3 : Nat) (Option.some Jvm.ClassFile.FieldType.int) [((0 : Nat), (5 : Nat), (6 : Nat), (20 : Nat))]) ∈ GW := tq_6 142 rfl rfl
set_option maxHeartbeats 4000000 in
set_option maxRecDepth 100000 in
/-- the law's outputAt -/
theorem w_outputAt (l : Launch) (dg : va_G) (ck : Nat → ClassId) (ka : Nat → Nat) (ad ra : Nat → Nat → Nat) (S : St) (X : Nat → Int) (Q : Nat → St) (P : St) (zs : Int) (b : BU) (x : Int) (sz : Nat) {n : Int} (hκ : KI n S X Q P zs) (hR : RO S X Q P zs b) {m : Int} {L : Int → Int} (hT : OT m L b) (rg_x : -2147483648 ≤ x ∧ x < 2147483648) (hst : l.stackTraces = false) : Met l yL_outputAt (.codeWith yL_outputAt cL_outputAt 3 (some .int) [(0, 5, 6, 20)] :: GW) ({ frames := 7, cells := 1, slots := 6, locals := 116 }) (va_Pc [.ref ((ad 7) 0), .int (zI x)] (wrK dg ck ka sz (brkU ck ka ad ra b))) (va_Qi (fun r (u : BU) => r = zI (if 0 ≤ x ∧ x < m then L x else -77) ∧ RO S X Q P zs u ∧ OT m L u) (fun u t9 => wrQ dg sz (brkU ck ka ad ra b) (brkU ck ka ad ra u) t9) (va_A (brkU ck ka ad ra b) sz)) 1 6 (va_A (brkU ck ka ad ra b) sz) := by
  obtain ⟨Z, O, U, X', S', T, P', I, V, N, Y, Q'⟩ := b
  obtain ⟨e1, e2, e3, e4, e5, ⟨hln, htx, hkv⟩, hu0, hY⟩ := hR
  have e1 : S = S' := e1
  have e2 : X = X' := e2
  have e3 : Q = Q' := e3
  have e4 : P = P' := e4
  have e5 : zs = Z 0 := e5
  subst e1 e2 e3 e4 e5
  have hln : 0 ≤ I 0 0 ∧ I 0 0 ≤ 60 := hln
  have htx : ∀ i, 0 ≤ i → i < 60 → 0 ≤ I 1 i ∧ I 1 i ≤ 126 := htx
  have hkv : 0 ≤ I 0 2 ∧ I 0 2 ≤ 9 := hkv
  have hu0 : 0 ≤ U 0 ∧ U 0 ≤ 16 := hu0
  have hY : y7Z Y := hY
  obtain ⟨⟨hV, hV2⟩, ⟨hn, hz⟩, hq10, hhist, hz0, hp10, hsn⟩ := id hκ
  have hI := hV.bd
  have hs10 : ∀ i, 0 ≤ S 10 i ∧ S 10 i ≤ 1 := hI.2.2.2.2.2.2.2.2.2.2.2.2.2.1
  obtain ⟨hTm, hTL⟩ := hT
  have hTm : U 0 = m := hTm
  have hTL : ∀ z, 0 ≤ z → z < m → Y z = L z := hTL
  subst hTm
  refine x_ofWH (cc := cL_outputAt) (maxL := 3) (ret := (some .int)) (by decide) rfl ?_
  intro p e s m args below meth c s₁ B hml htab hv
  obtain ⟨rfl, ⟨hsz, hP, hK, hD0⟩, hC⟩ := hv
  have hx := B.exec
  have hb := B.bytes
  have hr := B.returns
  have hts := atoms_spec (ws := .codeWith yL_outputAt cL_outputAt 3 (some .int) [(0, 5, 6, 20)] :: GW) B.pre
  have htg : ∀ w ∈ GW, w.before _ s = true := fun w h => hts w (List.mem_cons_of_mem _ h)
  have hown : s.vm.findClass RL = some m.cls := findClass_of_methodNamed B.named
  have hlocks := B.notSynchronized
  subst hsz
  have hD := hD0.self (sz := s.heap.size)
  generalize hAe : va_A (brkU ck ka ad ra (Z, O, U, X, S, T, P, I, V, N, Y, Q)) s.heap.size = A at hD hC ⊢
  have hA : ∀ q : Nat, s.heap.size ≤ q → A q := fun q h => by rw [← hAe]; exact Or.inr h
  have hS : va_S A s.heap s.heap [] := va_S.rf
  have hP : va_P dg vwCl (brkW ck ka ad ra Z O U X S T P I V N Y Q) s.heap := hP
  have hD : va_D A (brkW ck ka ad ra Z O U X S T P I V N Y Q) := hD
  have hl := lv_entry ([.ref ((ad 7) 0), .int (zI x)]) (n := 3) (Nat.le_of_ble_eq_true rfl)
  rw [lg_entry_eq]
  generalize (lg_sl ([.ref ((ad 7) 0), .int (zI x)]) ++ List.replicate (3 - (lg_sl ([.ref ((ad 7) 0), .int (zI x)])).length) Slot.unset).toArray = ls at hl ⊢
  have hl : lv_has ls 3 [(0, .ref ((ad 7) 0)), (1, .int (zI x))] := hl
  refine lv_aload_n hx hb dL_outputAt_0 rfl (lv_at hl 0 rfl) ?_
  refine lv_iload_n hx hb dL_outputAt_1 rfl (lv_at hl 1 rfl) ?_
  refine xl_calli0 (M := brkW ck ka ad ra Z O U X S T P I V N Y Q) (Mf := fun u : Unit => brkW ck ka ad ra Z O U X S T P I V N Y Q) (MX := fun u : Unit => brkW ck ka ad ra Z O U X S T P I V N Y Q) hP hD hS hA (fun hPm hDm => vx_runV (As := [.int (zI x)]) (rest := []) ⟨hx, hb, hml, hown, htg⟩ (x_outputAt l dg ck ka ad ra Z O U X S T P I V N Y Q x _ hu0 hY rg_x hst) (cwV 1 htg (gwV wq_1343 wq_1344 wq_1345 wq_1 wq_1346) rfl rfl rfl (by decide +kernel) ⟨Nat.le_of_ble_eq_true rfl, Nat.le_of_ble_eq_true rfl⟩) (wrK_preV hK hPm hDm hC hS hA 0 10 rfl rfl) rfl rfl hl.1 rfl (lv_room (Nat.le_of_ble_eq_true rfl)) dL_outputAt_2 ⟨Nat.le_of_ble_eq_true rfl, Nat.le_of_ble_eq_true rfl⟩) (fun E9 ce9 q9 u9 H locs hE9 hP hD hS g1 g2 g3 => ?_) (fun r9 u9 H locs hn9 hP hD hS => ?_)
  · obtain ⟨rfl, hc⟩ := hE9
    refine vx_catch (own := RL) (name := "java/lang/IndexOutOfBoundsException") hown [] ⟨0, 5, 6, 20⟩ [] (by rw [htab]; rfl) (fun z hz => absurd hz List.not_mem_nil) (by decide) (by decide) (htg _ wq_341) (va_Nw.use rfl (hC.nw (w := .castable "java/lang/IndexOutOfBoundsException" "java/lang/IndexOutOfBoundsException") (by decide +kernel))) g1 g2 g3 ?_
    refine W.eq (g2 := F0 m 6 ls [.ref q9]) rfl ?_
    refine lv_astore_n (lv' := [(2, .ref q9), (0, .ref ((ad 7) 0)), (1, .int (zI x))]) hx hb dL_outputAt_6 rfl hl (by decide) rfl (fun ls hl => ?_)
    refine x_bipush hx hb dL_outputAt_7 (by decide) ?_
    exact W.widen (k := 1) (n := 6) (Nat.le_of_ble_eq_true rfl) (Nat.le_of_ble_eq_true rfl) (W.iret (v := _) hx hb hr (fun t9 ht9 hW9 => ⟨⟨_, ((Z, O, U, X, S, T, P, I, V, N, Y, Q)), rfl, ⟨congrArg zI (if_neg hc).symm, ⟨rfl, rfl, rfl, rfl, rfl, ⟨hln, htx, hkv⟩, hu0, hY⟩, rfl, hTL⟩, by rw [ht9]; exact hP, by rw [hAe]; exact hD⟩, hS.F ht9⟩) hS.2.2 dL_outputAt_9)
  have hP : va_P dg vwCl (brkW ck ka ad ra Z O U X S T P I V N Y Q) H := hP
  have hD : va_D A (brkW ck ka ad ra Z O U X S T P I V N Y Q) := hD
  exact W.widen (k := 1) (n := 6) (Nat.le_of_ble_eq_true rfl) (Nat.le_of_ble_eq_true rfl) (W.iret (v := _) hx hb hr (fun t9 ht9 hW9 => ⟨⟨_, ((Z, O, U, X, S, T, P, I, V, N, Y, Q)), rfl, ⟨hn9.1.trans (congrArg zI ((hTL x hn9.2.1 hn9.2.2).trans (if_pos hn9.2).symm)), ⟨rfl, rfl, rfl, rfl, rfl, ⟨hln, htx, hkv⟩, hu0, hY⟩, rfl, hTL⟩, by rw [ht9]; exact hP, by rw [hAe]; exact hD⟩, hS.F ht9⟩) hS.2.2 dL_outputAt_5)

theorem wqL_writeRow : (Jvm.Cond.codeWith ({ cls := "BenchBrokerLaw", name := "writeRow", desc := "(LBenchBroker;I)I" } : Jvm.MethodName) method_42_code (3 : Nat) (Option.some Jvm.ClassFile.FieldType.int) [((0 : Nat), (5 : Nat), (6 : Nat), (20 : Nat))]) ∈ GW := tq_6 60 rfl rfl
set_option maxHeartbeats 4000000 in
set_option maxRecDepth 100000 in
/-- the law's writeRow -/
theorem w_writeRow (l : Launch) (dg : va_G) (ck : Nat → ClassId) (ka : Nat → Nat) (ad ra : Nat → Nat → Nat) (S : St) (X : Nat → Int) (Q : Nat → St) (P : St) (zs : Int) (b : BU) (x : Int) (sz : Nat) {n : Int} (hκ : KI n S X Q P zs) (hR : RO S X Q P zs b)  (rg_x : -2147483648 ≤ x ∧ x < 2147483648) (hst : l.stackTraces = false) : Met l yL_writeRow (.codeWith yL_writeRow cL_writeRow 3 (some .int) [(0, 5, 6, 20)] :: GW) ({ frames := 8, cells := 1, slots := 6, locals := 139 }) (va_Pc [.ref ((ad 7) 0), .int (zI x)] (wrK dg ck ka sz (brkU ck ka ad ra b))) (va_Qi (fun r (u : BU) => r = zI (if isCell x 0 then 6 else -77) ∧ RO S X Q P zs u ∧ (isCell x 0 → OT 6 (sgnZ S x) u)) (fun u t9 => wrQ dg sz (brkU ck ka ad ra b) (brkU ck ka ad ra u) t9) (va_A (brkU ck ka ad ra b) sz)) 1 6 (va_A (brkU ck ka ad ra b) sz) := by
  obtain ⟨Z, O, U, X', S', T, P', I, V, N, Y, Q'⟩ := b
  obtain ⟨e1, e2, e3, e4, e5, ⟨hln, htx, hkv⟩, hu0, hY⟩ := hR
  have e1 : S = S' := e1
  have e2 : X = X' := e2
  have e3 : Q = Q' := e3
  have e4 : P = P' := e4
  have e5 : zs = Z 0 := e5
  subst e1 e2 e3 e4 e5
  have hln : 0 ≤ I 0 0 ∧ I 0 0 ≤ 60 := hln
  have htx : ∀ i, 0 ≤ i → i < 60 → 0 ≤ I 1 i ∧ I 1 i ≤ 126 := htx
  have hkv : 0 ≤ I 0 2 ∧ I 0 2 ≤ 9 := hkv
  have hu0 : 0 ≤ U 0 ∧ U 0 ≤ 16 := hu0
  have hY : y7Z Y := hY
  obtain ⟨⟨hV, hV2⟩, ⟨hn, hz⟩, hq10, hhist, hz0, hp10, hsn⟩ := id hκ
  have hI := hV.bd
  have hs10 : ∀ i, 0 ≤ S 10 i ∧ S 10 i ≤ 1 := hI.2.2.2.2.2.2.2.2.2.2.2.2.2.1
  refine x_ofWH (cc := cL_writeRow) (maxL := 3) (ret := (some .int)) (by decide) rfl ?_
  intro p e s m args below meth c s₁ B hml htab hv
  obtain ⟨rfl, ⟨hsz, hP, hK, hD0⟩, hC⟩ := hv
  have hx := B.exec
  have hb := B.bytes
  have hr := B.returns
  have hts := atoms_spec (ws := .codeWith yL_writeRow cL_writeRow 3 (some .int) [(0, 5, 6, 20)] :: GW) B.pre
  have htg : ∀ w ∈ GW, w.before _ s = true := fun w h => hts w (List.mem_cons_of_mem _ h)
  have hown : s.vm.findClass RL = some m.cls := findClass_of_methodNamed B.named
  have hlocks := B.notSynchronized
  subst hsz
  have hD := hD0.self (sz := s.heap.size)
  generalize hAe : va_A (brkU ck ka ad ra (Z, O, U, X, S, T, P, I, V, N, Y, Q)) s.heap.size = A at hD hC ⊢
  have hA : ∀ q : Nat, s.heap.size ≤ q → A q := fun q h => by rw [← hAe]; exact Or.inr h
  have hS : va_S A s.heap s.heap [] := va_S.rf
  have hP : va_P dg vwCl (brkW ck ka ad ra Z O U X S T P I V N Y Q) s.heap := hP
  have hD : va_D A (brkW ck ka ad ra Z O U X S T P I V N Y Q) := hD
  have hl := lv_entry ([.ref ((ad 7) 0), .int (zI x)]) (n := 3) (Nat.le_of_ble_eq_true rfl)
  rw [lg_entry_eq]
  generalize (lg_sl ([.ref ((ad 7) 0), .int (zI x)]) ++ List.replicate (3 - (lg_sl ([.ref ((ad 7) 0), .int (zI x)])).length) Slot.unset).toArray = ls at hl ⊢
  have hl : lv_has ls 3 [(0, .ref ((ad 7) 0)), (1, .int (zI x))] := hl
  refine lv_aload_n hx hb dL_writeRow_0 rfl (lv_at hl 0 rfl) ?_
  refine lv_iload_n hx hb dL_writeRow_1 rfl (lv_at hl 1 rfl) ?_
  refine xl_calli0 (M := brkW ck ka ad ra Z O U X S T P I V N Y Q) (Mf := fun u : Unit => brkW ck ka ad ra Z O (upO (upO U 1 (if 0 < U 0 then 1 else U 1)) 0 6) X S T P I V N (wrY Y 0 (rtx S x 6)) Q) (MX := fun u : Unit => brkW ck ka ad ra Z O U X S T P I V N Y Q) hP hD hS hA (fun hPm hDm => vx_runV (As := [.int (zI x)]) (rest := []) ⟨hx, hb, hml, hown, htg⟩ (x_writeRow l dg ck ka ad ra Z O U X S T P I V N Y Q x _ hI hu0 rg_x hst) (cwV 1 htg (gwV wq_1261 wq_1262 wq_1263 wq_1 wq_1264) rfl rfl rfl (by decide +kernel) ⟨Nat.le_of_ble_eq_true rfl, Nat.le_of_ble_eq_true rfl⟩) (wrK_preV hK hPm hDm hC hS hA 0 10 rfl rfl) rfl rfl hl.1 rfl (lv_room (Nat.le_of_ble_eq_true rfl)) dL_writeRow_2 ⟨Nat.le_of_ble_eq_true rfl, Nat.le_of_ble_eq_true rfl⟩) (fun E9 ce9 q9 u9 H locs hE9 hP hD hS g1 g2 g3 => ?_) (fun r9 u9 H locs hn9 hP hD hS => ?_)
  · obtain ⟨rfl, hc⟩ := hE9
    refine vx_catch (own := RL) (name := "java/lang/IndexOutOfBoundsException") hown [] ⟨0, 5, 6, 20⟩ [] (by rw [htab]; rfl) (fun z hz => absurd hz List.not_mem_nil) (by decide) (by decide) (htg _ wq_341) (va_Nw.use rfl (hC.nw (w := .castable "java/lang/IndexOutOfBoundsException" "java/lang/IndexOutOfBoundsException") (by decide +kernel))) g1 g2 g3 ?_
    refine W.eq (g2 := F0 m 6 ls [.ref q9]) rfl ?_
    refine lv_astore_n (lv' := [(2, .ref q9), (0, .ref ((ad 7) 0)), (1, .int (zI x))]) hx hb dL_writeRow_6 rfl hl (by decide) rfl (fun ls hl => ?_)
    refine x_bipush hx hb dL_writeRow_7 (by decide) ?_
    exact W.widen (k := 1) (n := 6) (Nat.le_of_ble_eq_true rfl) (Nat.le_of_ble_eq_true rfl) (W.iret (v := _) hx hb hr (fun t9 ht9 hW9 => ⟨⟨_, ((Z, O, U, X, S, T, P, I, V, N, Y, Q)), rfl, ⟨congrArg zI (if_neg hc).symm, ⟨rfl, rfl, rfl, rfl, rfl, ⟨hln, htx, hkv⟩, hu0, hY⟩, fun q9 => absurd q9 hc⟩, by rw [ht9]; exact hP, by rw [hAe]; exact hD⟩, hS.F ht9⟩) hS.2.2 dL_writeRow_9)
  have hP : va_P dg vwCl (brkW ck ka ad ra Z O (upO (upO U 1 (if 0 < U 0 then 1 else U 1)) 0 6) X S T P I V N (wrY Y 0 (rtx S x 6)) Q) H := hP
  have hD : va_D A (brkW ck ka ad ra Z O (upO (upO U 1 (if 0 < U 0 then 1 else U 1)) 0 6) X S T P I V N (wrY Y 0 (rtx S x 6)) Q) := hD
  have hyb := wrY_b (rtx_b hI x 6) Y 0 hY
  exact W.widen (k := 1) (n := 6) (Nat.le_of_ble_eq_true rfl) (Nat.le_of_ble_eq_true rfl) (W.iret (v := _) hx hb hr (fun t9 ht9 hW9 => ⟨⟨_, ((Z, O, (upO (upO U 1 (if 0 < U 0 then 1 else U 1)) 0 6), X, S, T, P, I, V, N, (wrY Y 0 (rtx S x 6)), Q)), rfl, ⟨hn9.1.trans (congrArg zI (if_pos hn9.2).symm), ⟨rfl, rfl, rfl, rfl, rfl, ⟨hln, htx, hkv⟩, (by show (0 : Int) ≤ 6 ∧ (6 : Int) ≤ 16; decide), hyb⟩, fun _ => ⟨rfl, fun z9 h1 h2 => rtx_w S x Y z9 h1 h2⟩⟩, by rw [ht9]; exact hP, by rw [hAe]; exact hD⟩, hS.F ht9⟩) hS.2.2 dL_writeRow_5)

theorem wqL_appendInput : (Jvm.Cond.codeWith ({ cls := "BenchBrokerLaw", name := "appendInput", desc := "(LBenchBroker;C)I" } : Jvm.MethodName) method_44_code (3 : Nat) (Option.some Jvm.ClassFile.FieldType.int) [((0 : Nat), (5 : Nat), (6 : Nat), (22 : Nat)), ((0 : Nat), (5 : Nat), (10 : Nat), (161 : Nat))]) ∈ GW := tq_5 135 rfl rfl
set_option maxHeartbeats 4000000 in
set_option maxRecDepth 100000 in
/-- the law's appendInput -/
theorem w_appendInput (l : Launch) (dg : va_G) (ck : Nat → ClassId) (ka : Nat → Nat) (ad ra : Nat → Nat → Nat) (S : St) (X : Nat → Int) (Q : Nat → St) (P : St) (zs : Int) (b : BU) (x : Int) (sz : Nat) {n : Int} (hκ : KI n S X Q P zs) (hR : RO S X Q P zs b)  (hx0 : 0 ≤ x ∧ x < 65536) (hst : l.stackTraces = false) : Met l yL_appendInput (.codeWith yL_appendInput cL_appendInput 3 (some .int) [(0, 5, 6, 22), (0, 5, 10, 161)] :: GW) ({ frames := 7, cells := 1, slots := 6, locals := 116 }) (va_Pc [.ref ((ad 7) 0), .int (zI x)] (wrK dg ck ka sz (brkU ck ka ad ra b))) (va_Qi (fun r (u : BU) => RO S X Q P zs u) (fun u t9 => wrQ dg sz (brkU ck ka ad ra b) (brkU ck ka ad ra u) t9) (va_A (brkU ck ka ad ra b) sz)) 1 6 (va_A (brkU ck ka ad ra b) sz) := by
  obtain ⟨Z, O, U, X', S', T, P', I, V, N, Y, Q'⟩ := b
  obtain ⟨e1, e2, e3, e4, e5, ⟨hln, htx, hkv⟩, hu0, hY⟩ := hR
  have e1 : S = S' := e1
  have e2 : X = X' := e2
  have e3 : Q = Q' := e3
  have e4 : P = P' := e4
  have e5 : zs = Z 0 := e5
  subst e1 e2 e3 e4 e5
  have hln : 0 ≤ I 0 0 ∧ I 0 0 ≤ 60 := hln
  have htx : ∀ i, 0 ≤ i → i < 60 → 0 ≤ I 1 i ∧ I 1 i ≤ 126 := htx
  have hkv : 0 ≤ I 0 2 ∧ I 0 2 ≤ 9 := hkv
  have hu0 : 0 ≤ U 0 ∧ U 0 ≤ 16 := hu0
  have hY : y7Z Y := hY
  obtain ⟨⟨hV, hV2⟩, ⟨hn, hz⟩, hq10, hhist, hz0, hp10, hsn⟩ := id hκ
  have hI := hV.bd
  have hs10 : ∀ i, 0 ≤ S 10 i ∧ S 10 i ≤ 1 := hI.2.2.2.2.2.2.2.2.2.2.2.2.2.1
  refine x_ofWH (cc := cL_appendInput) (maxL := 3) (ret := (some .int)) (by decide) rfl ?_
  intro p e s m args below meth c s₁ B hml htab hv
  obtain ⟨rfl, ⟨hsz, hP, hK, hD0⟩, hC⟩ := hv
  have hx := B.exec
  have hb := B.bytes
  have hr := B.returns
  have hts := atoms_spec (ws := .codeWith yL_appendInput cL_appendInput 3 (some .int) [(0, 5, 6, 22), (0, 5, 10, 161)] :: GW) B.pre
  have htg : ∀ w ∈ GW, w.before _ s = true := fun w h => hts w (List.mem_cons_of_mem _ h)
  have hown : s.vm.findClass RL = some m.cls := findClass_of_methodNamed B.named
  have hlocks := B.notSynchronized
  subst hsz
  have hD := hD0.self (sz := s.heap.size)
  generalize hAe : va_A (brkU ck ka ad ra (Z, O, U, X, S, T, P, I, V, N, Y, Q)) s.heap.size = A at hD hC ⊢
  have hA : ∀ q : Nat, s.heap.size ≤ q → A q := fun q h => by rw [← hAe]; exact Or.inr h
  have hS : va_S A s.heap s.heap [] := va_S.rf
  have hP : va_P dg vwCl (brkW ck ka ad ra Z O U X S T P I V N Y Q) s.heap := hP
  have hD : va_D A (brkW ck ka ad ra Z O U X S T P I V N Y Q) := hD
  have hl := lv_entry ([.ref ((ad 7) 0), .int (zI x)]) (n := 3) (Nat.le_of_ble_eq_true rfl)
  rw [lg_entry_eq]
  generalize (lg_sl ([.ref ((ad 7) 0), .int (zI x)]) ++ List.replicate (3 - (lg_sl ([.ref ((ad 7) 0), .int (zI x)])).length) Slot.unset).toArray = ls at hl ⊢
  have hl : lv_has ls 3 [(0, .ref ((ad 7) 0)), (1, .int (zI x))] := hl
  refine lv_aload_n hx hb dL_appendInput_0 rfl (lv_at hl 0 rfl) ?_
  refine lv_iload_n hx hb dL_appendInput_1 rfl (lv_at hl 1 rfl) ?_
  refine xl_calli0 (M := brkW ck ka ad ra Z O U X S T P I V N Y Q) (Mf := fun u : Unit => brkW ck ka ad ra Z O U X S T P (upS (upS I 1 (I 0 0) x) 0 0 (I 0 0 + 1)) V N Y Q) (MX := fun u : Unit => brkW ck ka ad ra Z O U X S T P I V N Y Q) hP hD hS hA (fun hPm hDm => vx_runV (As := [.int (zI x)]) (rest := []) ⟨hx, hb, hml, hown, htg⟩ (x_appendInput l dg ck ka ad ra Z O U X S T P I V N Y Q x _ hx0 hln hst) (cwV 1 htg (gwV wq_1097 wq_1098 wq_1099 wq_1 wq_1100) rfl rfl rfl (by decide +kernel) ⟨Nat.le_of_ble_eq_true rfl, Nat.le_of_ble_eq_true rfl⟩) (wrK_preV hK hPm hDm hC hS hA 0 10 rfl rfl) rfl rfl hl.1 rfl (lv_room (Nat.le_of_ble_eq_true rfl)) dL_appendInput_2 ⟨Nat.le_of_ble_eq_true rfl, Nat.le_of_ble_eq_true rfl⟩) (fun E9 ce9 q9 u9 H locs hE9 hP hD hS g1 g2 g3 => ?_) (fun r9 u9 H locs hn9 hP hD hS => ?_)
  · rcases hE9 with ⟨rfl, hc⟩ | ⟨rfl, hc⟩
    · refine vx_catch (own := RL) (name := "java/lang/IllegalArgumentException") hown [] ⟨0, 5, 6, 22⟩ [⟨0, 5, 10, 161⟩] (by rw [htab]; rfl) (fun z hz => absurd hz List.not_mem_nil) (by decide) (by decide) (htg _ wq_566) (va_Nw.use rfl (hC.nw (w := .castable "java/lang/IllegalArgumentException" "java/lang/IllegalArgumentException") (by decide +kernel))) g1 g2 g3 ?_
      refine W.eq (g2 := F0 m 6 ls [.ref q9]) rfl ?_
      refine lv_astore_n (lv' := [(2, .ref q9), (0, .ref ((ad 7) 0)), (1, .int (zI x))]) hx hb dL_appendInput_6 rfl hl (by decide) rfl (fun ls hl => ?_)
      refine x_bipush hx hb dL_appendInput_7 (by decide) ?_
      exact W.widen (k := 1) (n := 6) (Nat.le_of_ble_eq_true rfl) (Nat.le_of_ble_eq_true rfl) (W.iret (v := _) hx hb hr (fun t9 ht9 hW9 => ⟨⟨_, ((Z, O, U, X, S, T, P, I, V, N, Y, Q)), rfl, ⟨rfl, rfl, rfl, rfl, rfl, ⟨hln, htx, hkv⟩, hu0, hY⟩, by rw [ht9]; exact hP, by rw [hAe]; exact hD⟩, hS.F ht9⟩) hS.2.2 dL_appendInput_9)
    · refine vx_catch (own := RL) (name := "java/lang/IllegalStateException") hown [⟨0, 5, 6, 22⟩] ⟨0, 5, 10, 161⟩ [] (by rw [htab]; rfl) (by intro z hz; simp only [List.mem_cons, List.not_mem_nil, or_false] at hz; subst hz; exact Or.inr ⟨by decide, "java/lang/IllegalArgumentException", htg _ wq_566, hC.nc (by decide +kernel)⟩) (by decide) (by decide) (htg _ wq_1096) (va_Nw.use rfl (hC.nw (w := .castable "java/lang/IllegalStateException" "java/lang/IllegalStateException") (by decide +kernel))) g1 g2 g3 ?_
      refine W.eq (g2 := F0 m 10 ls [.ref q9]) rfl ?_
      refine lv_astore_n (lv' := [(2, .ref q9), (0, .ref ((ad 7) 0)), (1, .int (zI x))]) hx hb dL_appendInput_10 rfl hl (by decide) rfl (fun ls hl => ?_)
      refine x_bipush hx hb dL_appendInput_11 (by decide) ?_
      exact W.widen (k := 1) (n := 6) (Nat.le_of_ble_eq_true rfl) (Nat.le_of_ble_eq_true rfl) (W.iret (v := _) hx hb hr (fun t9 ht9 hW9 => ⟨⟨_, ((Z, O, U, X, S, T, P, I, V, N, Y, Q)), rfl, ⟨rfl, rfl, rfl, rfl, rfl, ⟨hln, htx, hkv⟩, hu0, hY⟩, by rw [ht9]; exact hP, by rw [hAe]; exact hD⟩, hS.F ht9⟩) hS.2.2 dL_appendInput_13)
  have hP : va_P dg vwCl (brkW ck ka ad ra Z O U X S T P (upS (upS I 1 (I 0 0) x) 0 0 (I 0 0 + 1)) V N Y Q) H := hP
  have hD : va_D A (brkW ck ka ad ra Z O U X S T P (upS (upS I 1 (I 0 0) x) 0 0 (I 0 0 + 1)) V N Y Q) := hD
  obtain ⟨rfl, hok, hok2⟩ := hn9
  exact W.widen (k := 1) (n := 6) (Nat.le_of_ble_eq_true rfl) (Nat.le_of_ble_eq_true rfl) (W.iret (v := _) hx hb hr (fun t9 ht9 hW9 => ⟨⟨_, ((Z, O, U, X, S, T, P, (upS (upS I 1 (I 0 0) x) 0 0 (I 0 0 + 1)), V, N, Y, Q)), rfl, ⟨rfl, rfl, rfl, rfl, rfl, ⟨(by show 0 ≤ I 0 0 + 1 ∧ I 0 0 + 1 ≤ 60; omega), (fun i9 h1 h2 => by show 0 ≤ upS I 1 (I 0 0) x 1 i9 ∧ upS I 1 (I 0 0) x 1 i9 ≤ 126; rw [upS_k]; have h9 := htx i9 h1 h2; split <;> omega), hkv⟩, hu0, hY⟩, by rw [ht9]; exact hP, by rw [hAe]; exact hD⟩, hS.F ht9⟩) hS.2.2 dL_appendInput_5)

theorem wqL_execute : (Jvm.Cond.codeWith ({ cls := "BenchBrokerLaw", name := "execute", desc := "(LBenchBroker;)I" } : Jvm.MethodName) method_45_code (2 : Nat) (Option.some Jvm.ClassFile.FieldType.int) [((0 : Nat), (4 : Nat), (5 : Nat), (22 : Nat)), ((0 : Nat), (4 : Nat), (9 : Nat), (161 : Nat)), ((0 : Nat), (4 : Nat), (13 : Nat), (24 : Nat))]) ∈ GW := tq_5 158 rfl rfl
set_option maxHeartbeats 4000000 in
set_option maxRecDepth 100000 in
/-- the law's execute -/
theorem w_execute (l : Launch) (dg : va_G) (ck : Nat → ClassId) (ka : Nat → Nat) (ad ra : Nat → Nat → Nat) (S : St) (X : Nat → Int) (Q : Nat → St) (P : St) (zs : Int) (b : BU) (sz : Nat) {n : Int} (hκ : KI n S X Q P zs) (hR : RO S X Q P zs b) (hMx : n + 3100 ≤ 4000000)  (hst : l.stackTraces = false) : Met l yL_execute (.codeWith yL_execute cL_execute 2 (some .int) [(0, 4, 5, 22), (0, 4, 9, 161), (0, 4, 13, 24)] :: GW) ({ frames := 9, cells := 1, slots := 6, locals := 197 }) (va_Pc [.ref ((ad 7) 0)] (wrK dg ck ka sz (brkU ck ka ad ra b))) (va_Qi (fun r (u : BU) => ∃ (v : Int) (S9 : St), r = zI v ∧ ((v ≤ -74 ∧ -80 ≤ v ∧ RO S X Q P zs u) ∨ ((0 ≤ v ∧ v ≤ 31) ∧ Inv (n + 3100) S9 ∧ Iv2 S9 ∧ RO S9 (phX X 0) (phQ Q X S 0) P zs u))) (fun u t9 => wrQ dg sz (brkU ck ka ad ra b) (brkU ck ka ad ra u) t9) (va_A (brkU ck ka ad ra b) sz)) 1 6 (va_A (brkU ck ka ad ra b) sz) := by
  obtain ⟨Z, O, U, X', S', T, P', I, V, N, Y, Q'⟩ := b
  obtain ⟨e1, e2, e3, e4, e5, ⟨hln, htx, hkv⟩, hu0, hY⟩ := hR
  have e1 : S = S' := e1
  have e2 : X = X' := e2
  have e3 : Q = Q' := e3
  have e4 : P = P' := e4
  have e5 : zs = Z 0 := e5
  subst e1 e2 e3 e4 e5
  have hln : 0 ≤ I 0 0 ∧ I 0 0 ≤ 60 := hln
  have htx : ∀ i, 0 ≤ i → i < 60 → 0 ≤ I 1 i ∧ I 1 i ≤ 126 := htx
  have hkv : 0 ≤ I 0 2 ∧ I 0 2 ≤ 9 := hkv
  have hu0 : 0 ≤ U 0 ∧ U 0 ≤ 16 := hu0
  have hY : y7Z Y := hY
  obtain ⟨⟨hV, hV2⟩, ⟨hn, hz⟩, hq10, hhist, hz0, hp10, hsn⟩ := id hκ
  have hI := hV.bd
  have hs10 : ∀ i, 0 ≤ S 10 i ∧ S 10 i ≤ 1 := hI.2.2.2.2.2.2.2.2.2.2.2.2.2.1
  refine x_ofWH (cc := cL_execute) (maxL := 2) (ret := (some .int)) (by decide) rfl ?_
  intro p e s m args below meth c s₁ B hml htab hv
  obtain ⟨rfl, ⟨hsz, hP, hK, hD0⟩, hC⟩ := hv
  have hx := B.exec
  have hb := B.bytes
  have hr := B.returns
  have hts := atoms_spec (ws := .codeWith yL_execute cL_execute 2 (some .int) [(0, 4, 5, 22), (0, 4, 9, 161), (0, 4, 13, 24)] :: GW) B.pre
  have htg : ∀ w ∈ GW, w.before _ s = true := fun w h => hts w (List.mem_cons_of_mem _ h)
  have hown : s.vm.findClass RL = some m.cls := findClass_of_methodNamed B.named
  have hlocks := B.notSynchronized
  subst hsz
  have hD := hD0.self (sz := s.heap.size)
  generalize hAe : va_A (brkU ck ka ad ra (Z, O, U, X, S, T, P, I, V, N, Y, Q)) s.heap.size = A at hD hC ⊢
  have hA : ∀ q : Nat, s.heap.size ≤ q → A q := fun q h => by rw [← hAe]; exact Or.inr h
  have hS : va_S A s.heap s.heap [] := va_S.rf
  have hP : va_P dg vwCl (brkW ck ka ad ra Z O U X S T P I V N Y Q) s.heap := hP
  have hD : va_D A (brkW ck ka ad ra Z O U X S T P I V N Y Q) := hD
  have hl := lv_entry ([.ref ((ad 7) 0)]) (n := 2) (Nat.le_of_ble_eq_true rfl)
  rw [lg_entry_eq]
  generalize (lg_sl ([.ref ((ad 7) 0)]) ++ List.replicate (2 - (lg_sl ([.ref ((ad 7) 0)])).length) Slot.unset).toArray = ls at hl ⊢
  have hl : lv_has ls 2 [(0, .ref ((ad 7) 0))] := hl
  refine lv_aload_n hx hb dL_execute_0 rfl (lv_at hl 0 rfl) ?_
  refine xl_calli0 (M := brkW ck ka ad ra Z O U X S T P I V N Y Q) (Mf := fun u : (Nat → Int) × St × St => brkW ck ka ad ra Z u.1 U (upO (upO X 0 (((X 0) + 1) % 8)) 1 (k1Z (X 1))) (exZ S (I 1) (I 0 0)).2.2.2 u.2.1 P u.2.2 V N Y (upQ Q (X 0) S)) (MX := fun u : (Nat → Int) × St × St => brkW ck ka ad ra (zxZ Z (exZ S (I 1) (I 0 0))) u.1 U X S u.2.1 P u.2.2 V N Y Q) hP hD hS hA (fun hPm hDm => vx_runV (As := []) (rest := []) ⟨hx, hb, hml, hown, htg⟩ (x_execute l dg ck ka ad ra Z O U X S T P I V N Y Q  _ hV hMx hn hz hln htx hkv hst) (cwV 0 htg (gwV wq_1119 wq_1120 wq_1121 wq_1 wq_1122) rfl rfl rfl (by decide +kernel) ⟨Nat.le_of_ble_eq_true rfl, Nat.le_of_ble_eq_true rfl⟩) (wrK_preV hK hPm hDm hC hS hA 0 10 rfl rfl) rfl rfl hl.1 rfl (lv_room (Nat.le_of_ble_eq_true rfl)) dL_execute_1 ⟨Nat.le_of_ble_eq_true rfl, Nat.le_of_ble_eq_true rfl⟩) (fun E9 ce9 q9 u9 H locs hE9 hP hD hS g1 g2 g3 => ?_) (fun r9 u9 H locs hn9 hP hD hS => ?_)
  · obtain ⟨hE9, hxk⟩ := hE9
    rcases hE9 with ⟨rfl, hc⟩ | ⟨rfl, hc⟩ | ⟨rfl, hc⟩
    · refine vx_catch (own := RL) (name := "java/lang/IllegalArgumentException") hown [] ⟨0, 4, 5, 22⟩ [⟨0, 4, 9, 161⟩, ⟨0, 4, 13, 24⟩] (by rw [htab]; rfl) (fun z hz => absurd hz List.not_mem_nil) (by decide) (by decide) (htg _ wq_566) (va_Nw.use rfl (hC.nw (w := .castable "java/lang/IllegalArgumentException" "java/lang/IllegalArgumentException") (by decide +kernel))) g1 g2 g3 ?_
      refine W.eq (g2 := F0 m 5 ls [.ref q9]) rfl ?_
      refine lv_astore_n (lv' := [(1, .ref q9), (0, .ref ((ad 7) 0))]) hx hb dL_execute_5 rfl hl (by decide) rfl (fun ls hl => ?_)
      refine x_bipush hx hb dL_execute_6 (by decide) ?_
      have hxi : (0 ≤ u9.2.2 0 0 ∧ u9.2.2 0 0 ≤ 60) ∧ (∀ i, 0 ≤ i → i < 60 → 0 ≤ u9.2.2 1 i ∧ u9.2.2 1 i ≤ 126) ∧ (0 ≤ u9.2.2 0 2 ∧ u9.2.2 0 2 ≤ 9) := ⟨by rw [hxk.1]; decide, by rw [hxk.2.1]; exact htx, hxk.2.2⟩
      have hz0 : Z 0 = zxZ Z (exZ S (I 1) (I 0 0)) 0 := by (unfold zxZ; (repeat' split) <;> rfl)
      exact W.widen (k := 1) (n := 6) (Nat.le_of_ble_eq_true rfl) (Nat.le_of_ble_eq_true rfl) (W.iret (v := _) hx hb hr (fun t9 ht9 hW9 => ⟨⟨_, (((zxZ Z (exZ S (I 1) (I 0 0))), u9.1, U, X, S, u9.2.1, P, u9.2.2, V, N, Y, Q)), rfl, ⟨(-78), S, rfl, Or.inl ⟨by decide, by decide, rfl, rfl, rfl, rfl, hz0, ⟨hxi.1, hxi.2.1, hxi.2.2⟩, hu0, hY⟩⟩, by rw [ht9]; exact hP, by rw [hAe]; exact hD⟩, hS.F ht9⟩) hS.2.2 dL_execute_8)
    · refine vx_catch (own := RL) (name := "java/lang/IllegalStateException") hown [⟨0, 4, 5, 22⟩] ⟨0, 4, 9, 161⟩ [⟨0, 4, 13, 24⟩] (by rw [htab]; rfl) (by intro z hz; simp only [List.mem_cons, List.not_mem_nil, or_false] at hz; subst hz; exact Or.inr ⟨by decide, "java/lang/IllegalArgumentException", htg _ wq_566, hC.nc (by decide +kernel)⟩) (by decide) (by decide) (htg _ wq_1096) (va_Nw.use rfl (hC.nw (w := .castable "java/lang/IllegalStateException" "java/lang/IllegalStateException") (by decide +kernel))) g1 g2 g3 ?_
      refine W.eq (g2 := F0 m 9 ls [.ref q9]) rfl ?_
      refine lv_astore_n (lv' := [(1, .ref q9), (0, .ref ((ad 7) 0))]) hx hb dL_execute_9 rfl hl (by decide) rfl (fun ls hl => ?_)
      refine x_bipush hx hb dL_execute_10 (by decide) ?_
      have hxi : (0 ≤ u9.2.2 0 0 ∧ u9.2.2 0 0 ≤ 60) ∧ (∀ i, 0 ≤ i → i < 60 → 0 ≤ u9.2.2 1 i ∧ u9.2.2 1 i ≤ 126) ∧ (0 ≤ u9.2.2 0 2 ∧ u9.2.2 0 2 ≤ 9) := ⟨by rw [hxk.1]; decide, by rw [hxk.2.1]; exact htx, hxk.2.2⟩
      have hz0 : Z 0 = zxZ Z (exZ S (I 1) (I 0 0)) 0 := by (unfold zxZ; (repeat' split) <;> rfl)
      exact W.widen (k := 1) (n := 6) (Nat.le_of_ble_eq_true rfl) (Nat.le_of_ble_eq_true rfl) (W.iret (v := _) hx hb hr (fun t9 ht9 hW9 => ⟨⟨_, (((zxZ Z (exZ S (I 1) (I 0 0))), u9.1, U, X, S, u9.2.1, P, u9.2.2, V, N, Y, Q)), rfl, ⟨(-79), S, rfl, Or.inl ⟨by decide, by decide, rfl, rfl, rfl, rfl, hz0, ⟨hxi.1, hxi.2.1, hxi.2.2⟩, hu0, hY⟩⟩, by rw [ht9]; exact hP, by rw [hAe]; exact hD⟩, hS.F ht9⟩) hS.2.2 dL_execute_12)
    · refine vx_catch (own := RL) (name := "java/lang/UnsupportedOperationException") hown [⟨0, 4, 5, 22⟩, ⟨0, 4, 9, 161⟩] ⟨0, 4, 13, 24⟩ [] (by rw [htab]; rfl) (by intro z hz; simp only [List.mem_cons, List.not_mem_nil, or_false] at hz; exact hz.elim (fun e9 => by subst e9; exact Or.inr ⟨by decide, "java/lang/IllegalArgumentException", htg _ wq_566, hC.nc (by decide +kernel)⟩) (fun e9 => by subst e9; exact Or.inr ⟨by decide, "java/lang/IllegalStateException", htg _ wq_1096, hC.nc (by decide +kernel)⟩)) (by decide) (by decide) (htg _ wq_655) (va_Nw.use rfl (hC.nw (w := .castable "java/lang/UnsupportedOperationException" "java/lang/UnsupportedOperationException") (by decide +kernel))) g1 g2 g3 ?_
      refine W.eq (g2 := F0 m 13 ls [.ref q9]) rfl ?_
      refine lv_astore_n (lv' := [(1, .ref q9), (0, .ref ((ad 7) 0))]) hx hb dL_execute_13 rfl hl (by decide) rfl (fun ls hl => ?_)
      refine x_bipush hx hb dL_execute_14 (by decide) ?_
      have hxi : (0 ≤ u9.2.2 0 0 ∧ u9.2.2 0 0 ≤ 60) ∧ (∀ i, 0 ≤ i → i < 60 → 0 ≤ u9.2.2 1 i ∧ u9.2.2 1 i ≤ 126) ∧ (0 ≤ u9.2.2 0 2 ∧ u9.2.2 0 2 ≤ 9) := ⟨by rw [hxk.1]; decide, by rw [hxk.2.1]; exact htx, hxk.2.2⟩
      have hz0 : Z 0 = zxZ Z (exZ S (I 1) (I 0 0)) 0 := by (unfold zxZ; (repeat' split) <;> rfl)
      exact W.widen (k := 1) (n := 6) (Nat.le_of_ble_eq_true rfl) (Nat.le_of_ble_eq_true rfl) (W.iret (v := _) hx hb hr (fun t9 ht9 hW9 => ⟨⟨_, (((zxZ Z (exZ S (I 1) (I 0 0))), u9.1, U, X, S, u9.2.1, P, u9.2.2, V, N, Y, Q)), rfl, ⟨(-76), S, rfl, Or.inl ⟨by decide, by decide, rfl, rfl, rfl, rfl, hz0, ⟨hxi.1, hxi.2.1, hxi.2.2⟩, hu0, hY⟩⟩, by rw [ht9]; exact hP, by rw [hAe]; exact hD⟩, hS.F ht9⟩) hS.2.2 dL_execute_16)
  have hP : va_P dg vwCl (brkW ck ka ad ra Z u9.1 U (upO (upO X 0 (((X 0) + 1) % 8)) 1 (k1Z (X 1))) (exZ S (I 1) (I 0 0)).2.2.2 u9.2.1 P u9.2.2 V N Y (upQ Q (X 0) S)) H := hP
  have hD : va_D A (brkW ck ka ad ra Z u9.1 U (upO (upO X 0 (((X 0) + 1) % 8)) 1 (k1Z (X 1))) (exZ S (I 1) (I 0 0)).2.2.2 u9.2.1 P u9.2.2 V N Y (upQ Q (X 0) S)) := hD
  obtain ⟨hr9, hok, hxk⟩ := hn9
  have hxo := exZ_ok (I 1) hV hV2 hMx hok
  have hxi : (0 ≤ u9.2.2 0 0 ∧ u9.2.2 0 0 ≤ 60) ∧ (∀ i, 0 ≤ i → i < 60 → 0 ≤ u9.2.2 1 i ∧ u9.2.2 1 i ≤ 126) ∧ (0 ≤ u9.2.2 0 2 ∧ u9.2.2 0 2 ≤ 9) := ⟨by rw [hxk.1]; decide, by rw [hxk.2.1]; exact htx, hxk.2.2⟩
  exact W.widen (k := 1) (n := 6) (Nat.le_of_ble_eq_true rfl) (Nat.le_of_ble_eq_true rfl) (W.iret (v := _) hx hb hr (fun t9 ht9 hW9 => ⟨⟨_, ((Z, u9.1, U, (upO (upO X 0 (((X 0) + 1) % 8)) 1 (k1Z (X 1))), (exZ S (I 1) (I 0 0)).2.2.2, u9.2.1, P, u9.2.2, V, N, Y, (upQ Q (X 0) S))), rfl, ⟨(exZ S (I 1) (I 0 0)).2.1, (exZ S (I 1) (I 0 0)).2.2.2, hr9, Or.inr ⟨⟨by omega, hxo.2.2.2⟩, hxo.1, hxo.2.1, rfl, rfl, rfl, rfl, rfl, ⟨hxi.1, hxi.2.1, hxi.2.2⟩, hu0, hY⟩⟩, by rw [ht9]; exact hP, by rw [hAe]; exact hD⟩, hS.F ht9⟩) hS.2.2 dL_execute_4)

theorem wqL_undo : (Jvm.Cond.codeWith ({ cls := "BenchBrokerLaw", name := "undo", desc := "(LBenchBroker;)I" } : Jvm.MethodName) method_50_code (2 : Nat) (Option.some Jvm.ClassFile.FieldType.int) [((0 : Nat), (4 : Nat), (5 : Nat), (161 : Nat))]) ∈ GW := tq_7 111 rfl rfl
set_option maxHeartbeats 4000000 in
set_option maxRecDepth 100000 in
/-- the law's undo -/
theorem w_undo (l : Launch) (dg : va_G) (ck : Nat → ClassId) (ka : Nat → Nat) (ad ra : Nat → Nat → Nat) (S : St) (X : Nat → Int) (Q : Nat → St) (P : St) (zs : Int) (b : BU) (sz : Nat) {n : Int} (hκ : KI n S X Q P zs) (hR : RO S X Q P zs b)   (hst : l.stackTraces = false) : Met l yL_undo (.codeWith yL_undo cL_undo 2 (some .int) [(0, 4, 5, 161)] :: GW) ({ frames := 7, cells := 1, slots := 6, locals := 115 }) (va_Pc [.ref ((ad 7) 0)] (wrK dg ck ka sz (brkU ck ka ad ra b))) (va_Qi (fun r (u : BU) => r = zI (if X 1 = 0 then -79 else X 1 - 1) ∧ (X 1 = 0 → RO S X Q P zs u) ∧ (X 1 ≠ 0 → RO (Q (hix X 1)) (upO (upO X 0 ((X 0 + 8 - 1) % 8)) 1 (X 1 - 1)) Q P zs u)) (fun u t9 => wrQ dg sz (brkU ck ka ad ra b) (brkU ck ka ad ra u) t9) (va_A (brkU ck ka ad ra b) sz)) 1 6 (va_A (brkU ck ka ad ra b) sz) := by
  obtain ⟨Z, O, U, X', S', T, P', I, V, N, Y, Q'⟩ := b
  obtain ⟨e1, e2, e3, e4, e5, ⟨hln, htx, hkv⟩, hu0, hY⟩ := hR
  have e1 : S = S' := e1
  have e2 : X = X' := e2
  have e3 : Q = Q' := e3
  have e4 : P = P' := e4
  have e5 : zs = Z 0 := e5
  subst e1 e2 e3 e4 e5
  have hln : 0 ≤ I 0 0 ∧ I 0 0 ≤ 60 := hln
  have htx : ∀ i, 0 ≤ i → i < 60 → 0 ≤ I 1 i ∧ I 1 i ≤ 126 := htx
  have hkv : 0 ≤ I 0 2 ∧ I 0 2 ≤ 9 := hkv
  have hu0 : 0 ≤ U 0 ∧ U 0 ≤ 16 := hu0
  have hY : y7Z Y := hY
  obtain ⟨⟨hV, hV2⟩, ⟨hn, hz⟩, hq10, hhist, hz0, hp10, hsn⟩ := id hκ
  have hI := hV.bd
  have hs10 : ∀ i, 0 ≤ S 10 i ∧ S 10 i ≤ 1 := hI.2.2.2.2.2.2.2.2.2.2.2.2.2.1
  refine x_ofWH (cc := cL_undo) (maxL := 2) (ret := (some .int)) (by decide) rfl ?_
  intro p e s m args below meth c s₁ B hml htab hv
  obtain ⟨rfl, ⟨hsz, hP, hK, hD0⟩, hC⟩ := hv
  have hx := B.exec
  have hb := B.bytes
  have hr := B.returns
  have hts := atoms_spec (ws := .codeWith yL_undo cL_undo 2 (some .int) [(0, 4, 5, 161)] :: GW) B.pre
  have htg : ∀ w ∈ GW, w.before _ s = true := fun w h => hts w (List.mem_cons_of_mem _ h)
  have hown : s.vm.findClass RL = some m.cls := findClass_of_methodNamed B.named
  have hlocks := B.notSynchronized
  subst hsz
  have hD := hD0.self (sz := s.heap.size)
  generalize hAe : va_A (brkU ck ka ad ra (Z, O, U, X, S, T, P, I, V, N, Y, Q)) s.heap.size = A at hD hC ⊢
  have hA : ∀ q : Nat, s.heap.size ≤ q → A q := fun q h => by rw [← hAe]; exact Or.inr h
  have hS : va_S A s.heap s.heap [] := va_S.rf
  have hP : va_P dg vwCl (brkW ck ka ad ra Z O U X S T P I V N Y Q) s.heap := hP
  have hD : va_D A (brkW ck ka ad ra Z O U X S T P I V N Y Q) := hD
  have hl := lv_entry ([.ref ((ad 7) 0)]) (n := 2) (Nat.le_of_ble_eq_true rfl)
  rw [lg_entry_eq]
  generalize (lg_sl ([.ref ((ad 7) 0)]) ++ List.replicate (2 - (lg_sl ([.ref ((ad 7) 0)])).length) Slot.unset).toArray = ls at hl ⊢
  have hl : lv_has ls 2 [(0, .ref ((ad 7) 0))] := hl
  refine lv_aload_n hx hb dL_undo_0 rfl (lv_at hl 0 rfl) ?_
  refine xl_calli0 (M := brkW ck ka ad ra Z O U X S T P I V N Y Q) (Mf := fun u : Unit => brkW ck ka ad ra Z O U (upO (upO X 0 ((((X 0) + 8) - 1) % 8)) 1 ((X 1) - 1)) (Q ((((X 0) + 8) - 1) % 8).toNat) T P I V N Y Q) (MX := fun u : Unit => brkW ck ka ad ra Z O U X S T P I V N Y Q) hP hD hS hA (fun hPm hDm => vx_runV (As := []) (rest := []) ⟨hx, hb, hml, hown, htg⟩ (x_undo l dg ck ka ad ra Z O U X S T P I V N Y Q  _ hn hz hq10 hst) (cwV 0 htg (gwV wq_1552 wq_1553 wq_1554 wq_1 wq_1555) rfl rfl rfl (by decide +kernel) ⟨Nat.le_of_ble_eq_true rfl, Nat.le_of_ble_eq_true rfl⟩) (wrK_preV hK hPm hDm hC hS hA 0 10 rfl rfl) rfl rfl hl.1 rfl (lv_room (Nat.le_of_ble_eq_true rfl)) dL_undo_1 ⟨Nat.le_of_ble_eq_true rfl, Nat.le_of_ble_eq_true rfl⟩) (fun E9 ce9 q9 u9 H locs hE9 hP hD hS g1 g2 g3 => ?_) (fun r9 u9 H locs hn9 hP hD hS => ?_)
  · obtain ⟨rfl, hc⟩ := hE9
    refine vx_catch (own := RL) (name := "java/lang/IllegalStateException") hown [] ⟨0, 4, 5, 161⟩ [] (by rw [htab]; rfl) (fun z hz => absurd hz List.not_mem_nil) (by decide) (by decide) (htg _ wq_1096) (va_Nw.use rfl (hC.nw (w := .castable "java/lang/IllegalStateException" "java/lang/IllegalStateException") (by decide +kernel))) g1 g2 g3 ?_
    refine W.eq (g2 := F0 m 5 ls [.ref q9]) rfl ?_
    refine lv_astore_n (lv' := [(1, .ref q9), (0, .ref ((ad 7) 0))]) hx hb dL_undo_5 rfl hl (by decide) rfl (fun ls hl => ?_)
    refine x_bipush hx hb dL_undo_6 (by decide) ?_
    exact W.widen (k := 1) (n := 6) (Nat.le_of_ble_eq_true rfl) (Nat.le_of_ble_eq_true rfl) (W.iret (v := _) hx hb hr (fun t9 ht9 hW9 => ⟨⟨_, ((Z, O, U, X, S, T, P, I, V, N, Y, Q)), rfl, ⟨congrArg zI (if_pos hc).symm, fun _ => ⟨rfl, rfl, rfl, rfl, rfl, ⟨hln, htx, hkv⟩, hu0, hY⟩, fun q9 => absurd hc q9⟩, by rw [ht9]; exact hP, by rw [hAe]; exact hD⟩, hS.F ht9⟩) hS.2.2 dL_undo_8)
  have hP : va_P dg vwCl (brkW ck ka ad ra Z O U (upO (upO X 0 ((((X 0) + 8) - 1) % 8)) 1 ((X 1) - 1)) (Q ((((X 0) + 8) - 1) % 8).toNat) T P I V N Y Q) H := hP
  have hD : va_D A (brkW ck ka ad ra Z O U (upO (upO X 0 ((((X 0) + 8) - 1) % 8)) 1 ((X 1) - 1)) (Q ((((X 0) + 8) - 1) % 8).toNat) T P I V N Y Q) := hD
  exact W.widen (k := 1) (n := 6) (Nat.le_of_ble_eq_true rfl) (Nat.le_of_ble_eq_true rfl) (W.iret (v := _) hx hb hr (fun t9 ht9 hW9 => ⟨⟨_, ((Z, O, U, (upO (upO X 0 ((((X 0) + 8) - 1) % 8)) 1 ((X 1) - 1)), (Q ((((X 0) + 8) - 1) % 8).toNat), T, P, I, V, N, Y, Q)), rfl, ⟨hn9.1.trans (congrArg zI (if_neg hn9.2).symm), fun q9 => absurd q9 hn9.2, fun _ => ⟨rfl, rfl, rfl, rfl, rfl, ⟨hln, htx, hkv⟩, hu0, hY⟩⟩, by rw [ht9]; exact hP, by rw [hAe]; exact hD⟩, hS.F ht9⟩) hS.2.2 dL_undo_4)

theorem wqL_restoreSnapshot : (Jvm.Cond.codeWith ({ cls := "BenchBrokerLaw", name := "restoreSnapshot", desc := "(LBenchBroker;)I" } : Jvm.MethodName) method_51_code (2 : Nat) (Option.some Jvm.ClassFile.FieldType.int) [((0 : Nat), (4 : Nat), (5 : Nat), (161 : Nat))]) ∈ GW := tq_7 122 rfl rfl
set_option maxHeartbeats 4000000 in
set_option maxRecDepth 100000 in
/-- the law's restoreSnapshot -/
theorem w_restoreSnapshot (l : Launch) (dg : va_G) (ck : Nat → ClassId) (ka : Nat → Nat) (ad ra : Nat → Nat → Nat) (S : St) (X : Nat → Int) (Q : Nat → St) (P : St) (zs : Int) (b : BU) (sz : Nat) {n : Int} (hκ : KI n S X Q P zs) (hR : RO S X Q P zs b)   (hst : l.stackTraces = false) : Met l yL_restoreSnapshot (.codeWith yL_restoreSnapshot cL_restoreSnapshot 2 (some .int) [(0, 4, 5, 161)] :: GW) ({ frames := 7, cells := 1, slots := 6, locals := 115 }) (va_Pc [.ref ((ad 7) 0)] (wrK dg ck ka sz (brkU ck ka ad ra b))) (va_Qi (fun r (u : BU) => r = zI (if zs = 0 then -79 else P 0 0) ∧ (zs = 0 → RO S X Q P zs u) ∧ (zs ≠ 0 → RO P (upO X 1 0) Q P zs u)) (fun u t9 => wrQ dg sz (brkU ck ka ad ra b) (brkU ck ka ad ra u) t9) (va_A (brkU ck ka ad ra b) sz)) 1 6 (va_A (brkU ck ka ad ra b) sz) := by
  obtain ⟨Z, O, U, X', S', T, P', I, V, N, Y, Q'⟩ := b
  obtain ⟨e1, e2, e3, e4, e5, ⟨hln, htx, hkv⟩, hu0, hY⟩ := hR
  have e1 : S = S' := e1
  have e2 : X = X' := e2
  have e3 : Q = Q' := e3
  have e4 : P = P' := e4
  have e5 : zs = Z 0 := e5
  subst e1 e2 e3 e4 e5
  have hln : 0 ≤ I 0 0 ∧ I 0 0 ≤ 60 := hln
  have htx : ∀ i, 0 ≤ i → i < 60 → 0 ≤ I 1 i ∧ I 1 i ≤ 126 := htx
  have hkv : 0 ≤ I 0 2 ∧ I 0 2 ≤ 9 := hkv
  have hu0 : 0 ≤ U 0 ∧ U 0 ≤ 16 := hu0
  have hY : y7Z Y := hY
  obtain ⟨⟨hV, hV2⟩, ⟨hn, hz⟩, hq10, hhist, hz0, hp10, hsn⟩ := id hκ
  have hI := hV.bd
  have hs10 : ∀ i, 0 ≤ S 10 i ∧ S 10 i ≤ 1 := hI.2.2.2.2.2.2.2.2.2.2.2.2.2.1
  refine x_ofWH (cc := cL_restoreSnapshot) (maxL := 2) (ret := (some .int)) (by decide) rfl ?_
  intro p e s m args below meth c s₁ B hml htab hv
  obtain ⟨rfl, ⟨hsz, hP, hK, hD0⟩, hC⟩ := hv
  have hx := B.exec
  have hb := B.bytes
  have hr := B.returns
  have hts := atoms_spec (ws := .codeWith yL_restoreSnapshot cL_restoreSnapshot 2 (some .int) [(0, 4, 5, 161)] :: GW) B.pre
  have htg : ∀ w ∈ GW, w.before _ s = true := fun w h => hts w (List.mem_cons_of_mem _ h)
  have hown : s.vm.findClass RL = some m.cls := findClass_of_methodNamed B.named
  have hlocks := B.notSynchronized
  subst hsz
  have hD := hD0.self (sz := s.heap.size)
  generalize hAe : va_A (brkU ck ka ad ra (Z, O, U, X, S, T, P, I, V, N, Y, Q)) s.heap.size = A at hD hC ⊢
  have hA : ∀ q : Nat, s.heap.size ≤ q → A q := fun q h => by rw [← hAe]; exact Or.inr h
  have hS : va_S A s.heap s.heap [] := va_S.rf
  have hP : va_P dg vwCl (brkW ck ka ad ra Z O U X S T P I V N Y Q) s.heap := hP
  have hD : va_D A (brkW ck ka ad ra Z O U X S T P I V N Y Q) := hD
  have hl := lv_entry ([.ref ((ad 7) 0)]) (n := 2) (Nat.le_of_ble_eq_true rfl)
  rw [lg_entry_eq]
  generalize (lg_sl ([.ref ((ad 7) 0)]) ++ List.replicate (2 - (lg_sl ([.ref ((ad 7) 0)])).length) Slot.unset).toArray = ls at hl ⊢
  have hl : lv_has ls 2 [(0, .ref ((ad 7) 0))] := hl
  refine lv_aload_n hx hb dL_restoreSnapshot_0 rfl (lv_at hl 0 rfl) ?_
  refine xl_calli0 (M := brkW ck ka ad ra Z O U X S T P I V N Y Q) (Mf := fun u : Unit => brkW ck ka ad ra Z O U (upO X 1 0) P T P I V N Y Q) (MX := fun u : Unit => brkW ck ka ad ra Z O U X S T P I V N Y Q) hP hD hS hA (fun hPm hDm => vx_runV (As := []) (rest := []) ⟨hx, hb, hml, hown, htg⟩ (x_restoreSnapshot l dg ck ka ad ra Z O U X S T P I V N Y Q  _ hz0 hp10 hst) (cwV 0 htg (gwV wq_1563 wq_1564 wq_1565 wq_1 wq_1566) rfl rfl rfl (by decide +kernel) ⟨Nat.le_of_ble_eq_true rfl, Nat.le_of_ble_eq_true rfl⟩) (wrK_preV hK hPm hDm hC hS hA 0 10 rfl rfl) rfl rfl hl.1 rfl (lv_room (Nat.le_of_ble_eq_true rfl)) dL_restoreSnapshot_1 ⟨Nat.le_of_ble_eq_true rfl, Nat.le_of_ble_eq_true rfl⟩) (fun E9 ce9 q9 u9 H locs hE9 hP hD hS g1 g2 g3 => ?_) (fun r9 u9 H locs hn9 hP hD hS => ?_)
  · obtain ⟨rfl, hc⟩ := hE9
    refine vx_catch (own := RL) (name := "java/lang/IllegalStateException") hown [] ⟨0, 4, 5, 161⟩ [] (by rw [htab]; rfl) (fun z hz => absurd hz List.not_mem_nil) (by decide) (by decide) (htg _ wq_1096) (va_Nw.use rfl (hC.nw (w := .castable "java/lang/IllegalStateException" "java/lang/IllegalStateException") (by decide +kernel))) g1 g2 g3 ?_
    refine W.eq (g2 := F0 m 5 ls [.ref q9]) rfl ?_
    refine lv_astore_n (lv' := [(1, .ref q9), (0, .ref ((ad 7) 0))]) hx hb dL_restoreSnapshot_5 rfl hl (by decide) rfl (fun ls hl => ?_)
    refine x_bipush hx hb dL_restoreSnapshot_6 (by decide) ?_
    exact W.widen (k := 1) (n := 6) (Nat.le_of_ble_eq_true rfl) (Nat.le_of_ble_eq_true rfl) (W.iret (v := _) hx hb hr (fun t9 ht9 hW9 => ⟨⟨_, ((Z, O, U, X, S, T, P, I, V, N, Y, Q)), rfl, ⟨congrArg zI (if_pos hc).symm, fun _ => ⟨rfl, rfl, rfl, rfl, rfl, ⟨hln, htx, hkv⟩, hu0, hY⟩, fun q9 => absurd hc q9⟩, by rw [ht9]; exact hP, by rw [hAe]; exact hD⟩, hS.F ht9⟩) hS.2.2 dL_restoreSnapshot_8)
  have hP : va_P dg vwCl (brkW ck ka ad ra Z O U (upO X 1 0) P T P I V N Y Q) H := hP
  have hD : va_D A (brkW ck ka ad ra Z O U (upO X 1 0) P T P I V N Y Q) := hD
  exact W.widen (k := 1) (n := 6) (Nat.le_of_ble_eq_true rfl) (Nat.le_of_ble_eq_true rfl) (W.iret (v := _) hx hb hr (fun t9 ht9 hW9 => ⟨⟨_, ((Z, O, U, (upO X 1 0), P, T, P, I, V, N, Y, Q)), rfl, ⟨hn9.1.trans (congrArg zI (if_neg hn9.2).symm), fun q9 => absurd q9 hn9.2, fun _ => ⟨rfl, rfl, rfl, rfl, rfl, ⟨hln, htx, hkv⟩, hu0, hY⟩⟩, by rw [ht9]; exact hP, by rw [hAe]; exact hD⟩, hS.F ht9⟩) hS.2.2 dL_restoreSnapshot_4)

theorem wqL_meanRent : (Jvm.Cond.codeWith ({ cls := "BenchBrokerLaw", name := "meanRent", desc := "(LBenchBroker;)D" } : Jvm.MethodName) method_39_code (2 : Nat) (Option.some Jvm.ClassFile.FieldType.double) [((0 : Nat), (4 : Nat), (5 : Nat), (138 : Nat))]) ∈ GW := tq_7 31 rfl rfl
set_option maxHeartbeats 4000000 in
set_option maxRecDepth 100000 in
/-- the law's meanRent -/
theorem w_meanRent (l : Launch) (dg : va_G) (ck : Nat → ClassId) (ka : Nat → Nat) (ad ra : Nat → Nat → Nat) (S : St) (X : Nat → Int) (Q : Nat → St) (P : St) (zs : Int) (b : BU) (sz : Nat) {n : Int} (hκ : KI n S X Q P zs) (hR : RO S X Q P zs b)   (hst : l.stackTraces = false) : Met l yL_meanRent (.codeWith yL_meanRent cL_meanRent 2 (some .double) [(0, 4, 5, 138)] :: GW) ({ frames := 7, cells := 1, slots := 6, locals := 118 }) (va_Pc [.ref ((ad 7) 0)] (wrK dg ck ka sz (brkU ck ka ad ra b))) (va_Qd (fun r (u : BU) => r = (vMean S 13858279740860792832) ∧ RO S X Q P zs u) (fun u t9 => wrQ dg sz (brkU ck ka ad ra b) (brkU ck ka ad ra u) t9) (va_A (brkU ck ka ad ra b) sz)) 1 6 (va_A (brkU ck ka ad ra b) sz) := by
  obtain ⟨Z, O, U, X', S', T, P', I, V, N, Y, Q'⟩ := b
  obtain ⟨e1, e2, e3, e4, e5, ⟨hln, htx, hkv⟩, hu0, hY⟩ := hR
  have e1 : S = S' := e1
  have e2 : X = X' := e2
  have e3 : Q = Q' := e3
  have e4 : P = P' := e4
  have e5 : zs = Z 0 := e5
  subst e1 e2 e3 e4 e5
  have hln : 0 ≤ I 0 0 ∧ I 0 0 ≤ 60 := hln
  have htx : ∀ i, 0 ≤ i → i < 60 → 0 ≤ I 1 i ∧ I 1 i ≤ 126 := htx
  have hkv : 0 ≤ I 0 2 ∧ I 0 2 ≤ 9 := hkv
  have hu0 : 0 ≤ U 0 ∧ U 0 ≤ 16 := hu0
  have hY : y7Z Y := hY
  obtain ⟨⟨hV, hV2⟩, ⟨hn, hz⟩, hq10, hhist, hz0, hp10, hsn⟩ := id hκ
  have hI := hV.bd
  have hs10 : ∀ i, 0 ≤ S 10 i ∧ S 10 i ≤ 1 := hI.2.2.2.2.2.2.2.2.2.2.2.2.2.1
  refine x_ofWH (cc := cL_meanRent) (maxL := 2) (ret := (some .double)) (by decide) rfl ?_
  intro p e s m args below meth c s₁ B hml htab hv
  obtain ⟨rfl, ⟨hsz, hP, hK, hD0⟩, hC⟩ := hv
  have hx := B.exec
  have hb := B.bytes
  have hr := B.returns
  have hts := atoms_spec (ws := .codeWith yL_meanRent cL_meanRent 2 (some .double) [(0, 4, 5, 138)] :: GW) B.pre
  have htg : ∀ w ∈ GW, w.before _ s = true := fun w h => hts w (List.mem_cons_of_mem _ h)
  have hown : s.vm.findClass RL = some m.cls := findClass_of_methodNamed B.named
  have hlocks := B.notSynchronized
  subst hsz
  have hD := hD0.self (sz := s.heap.size)
  generalize hAe : va_A (brkU ck ka ad ra (Z, O, U, X, S, T, P, I, V, N, Y, Q)) s.heap.size = A at hD hC ⊢
  have hA : ∀ q : Nat, s.heap.size ≤ q → A q := fun q h => by rw [← hAe]; exact Or.inr h
  have hS : va_S A s.heap s.heap [] := va_S.rf
  have hP : va_P dg vwCl (brkW ck ka ad ra Z O U X S T P I V N Y Q) s.heap := hP
  have hD : va_D A (brkW ck ka ad ra Z O U X S T P I V N Y Q) := hD
  have hl := lv_entry ([.ref ((ad 7) 0)]) (n := 2) (Nat.le_of_ble_eq_true rfl)
  rw [lg_entry_eq]
  generalize (lg_sl ([.ref ((ad 7) 0)]) ++ List.replicate (2 - (lg_sl ([.ref ((ad 7) 0)])).length) Slot.unset).toArray = ls at hl ⊢
  have hl : lv_has ls 2 [(0, .ref ((ad 7) 0))] := hl
  refine lv_aload_n hx hb dL_meanRent_0 rfl (lv_at hl 0 rfl) ?_
  refine xl_calld0 (M := brkW ck ka ad ra Z O U X S T P I V N Y Q) (Mf := fun u : Unit => brkW ck ka ad ra Z O U X S T P I V N Y Q) (MX := fun u : Unit => brkW ck ka ad ra Z O U X S T P I V N Y Q) hP hD hS hA (fun hPm hDm => vx_runV (As := []) (rest := []) ⟨hx, hb, hml, hown, htg⟩ (x_meanRent l dg ck ka ad ra Z O U X S T P I V N Y Q  _ hI hst) (cwV 0 htg (gwV wq_1486 wq_1487 wq_1488 wq_1 wq_1489) rfl rfl rfl (by decide +kernel) ⟨Nat.le_of_ble_eq_true rfl, Nat.le_of_ble_eq_true rfl⟩) (wrK_preV hK hPm hDm hC hS hA 0 10 rfl rfl) rfl rfl hl.1 rfl (lv_room (Nat.le_of_ble_eq_true rfl)) dL_meanRent_1 ⟨Nat.le_of_ble_eq_true rfl, Nat.le_of_ble_eq_true rfl⟩) (fun E9 ce9 q9 u9 H locs hE9 hP hD hS g1 g2 g3 => ?_) (fun r9 u9 H locs hn9 hP hD hS => ?_)
  · obtain ⟨rfl, hc⟩ := hE9
    refine vx_catch (own := RL) (name := "java/lang/ArithmeticException") hown [] ⟨0, 4, 5, 138⟩ [] (by rw [htab]; rfl) (fun z hz => absurd hz List.not_mem_nil) (by decide) (by decide) (htg _ wq_1472) (va_Nw.use rfl (hC.nw (w := .castable "java/lang/ArithmeticException" "java/lang/ArithmeticException") (by decide +kernel))) g1 g2 g3 ?_
    refine W.eq (g2 := F0 m 5 ls [.ref q9]) rfl ?_
    refine lv_astore_n (lv' := [(1, .ref q9), (0, .ref ((ad 7) 0))]) hx hb dL_meanRent_5 rfl hl (by decide) rfl (fun ls hl => ?_)
    refine lv_ldc2d hx hb hown (htg _ wq_1495) dL_meanRent_6 ?_
    exact W.widen (k := 1) (n := 6) (Nat.le_of_ble_eq_true rfl) (Nat.le_of_ble_eq_true rfl) (W.dret (v := _) hx hb hr (fun t9 ht9 hW9 => ⟨⟨_, ((Z, O, U, X, S, T, P, I, V, N, Y, Q)), rfl, ⟨(if_pos hc).symm, ⟨rfl, rfl, rfl, rfl, rfl, ⟨hln, htx, hkv⟩, hu0, hY⟩⟩, by rw [ht9]; exact hP, by rw [hAe]; exact hD⟩, hS.F ht9⟩) hS.2.2 dL_meanRent_9)
  have hP : va_P dg vwCl (brkW ck ka ad ra Z O U X S T P I V N Y Q) H := hP
  have hD : va_D A (brkW ck ka ad ra Z O U X S T P I V N Y Q) := hD
  exact W.widen (k := 1) (n := 6) (Nat.le_of_ble_eq_true rfl) (Nat.le_of_ble_eq_true rfl) (W.dret (v := _) hx hb hr (fun t9 ht9 hW9 => ⟨⟨_, ((Z, O, U, X, S, T, P, I, V, N, Y, Q)), rfl, ⟨hn9.1.trans (if_neg hn9.2).symm, ⟨rfl, rfl, rfl, rfl, rfl, ⟨hln, htx, hkv⟩, hu0, hY⟩⟩, by rw [ht9]; exact hP, by rw [hAe]; exact hD⟩, hS.F ht9⟩) hS.2.2 dL_meanRent_4)

theorem wqL_letShare : (Jvm.Cond.codeWith ({ cls := "BenchBrokerLaw", name := "letShare", desc := "(LBenchBroker;)F" } : Jvm.MethodName) method_40_code (2 : Nat) (Option.some Jvm.ClassFile.FieldType.float) [((0 : Nat), (4 : Nat), (5 : Nat), (138 : Nat))]) ∈ GW := tq_7 58 rfl rfl
set_option maxHeartbeats 4000000 in
set_option maxRecDepth 100000 in
/-- the law's letShare -/
theorem w_letShare (l : Launch) (dg : va_G) (ck : Nat → ClassId) (ka : Nat → Nat) (ad ra : Nat → Nat → Nat) (S : St) (X : Nat → Int) (Q : Nat → St) (P : St) (zs : Int) (b : BU) (sz : Nat) {n : Int} (hκ : KI n S X Q P zs) (hR : RO S X Q P zs b)   (hst : l.stackTraces = false) : Met l yL_letShare (.codeWith yL_letShare cL_letShare 2 (some .float) [(0, 4, 5, 138)] :: GW) ({ frames := 7, cells := 1, slots := 6, locals := 118 }) (va_Pc [.ref ((ad 7) 0)] (wrK dg ck ka sz (brkU ck ka ad ra b))) (va_Qf (fun r (u : BU) => r = (vShare S 3264479232) ∧ RO S X Q P zs u) (fun u t9 => wrQ dg sz (brkU ck ka ad ra b) (brkU ck ka ad ra u) t9) (va_A (brkU ck ka ad ra b) sz)) 1 6 (va_A (brkU ck ka ad ra b) sz) := by
  obtain ⟨Z, O, U, X', S', T, P', I, V, N, Y, Q'⟩ := b
  obtain ⟨e1, e2, e3, e4, e5, ⟨hln, htx, hkv⟩, hu0, hY⟩ := hR
  have e1 : S = S' := e1
  have e2 : X = X' := e2
  have e3 : Q = Q' := e3
  have e4 : P = P' := e4
  have e5 : zs = Z 0 := e5
  subst e1 e2 e3 e4 e5
  have hln : 0 ≤ I 0 0 ∧ I 0 0 ≤ 60 := hln
  have htx : ∀ i, 0 ≤ i → i < 60 → 0 ≤ I 1 i ∧ I 1 i ≤ 126 := htx
  have hkv : 0 ≤ I 0 2 ∧ I 0 2 ≤ 9 := hkv
  have hu0 : 0 ≤ U 0 ∧ U 0 ≤ 16 := hu0
  have hY : y7Z Y := hY
  obtain ⟨⟨hV, hV2⟩, ⟨hn, hz⟩, hq10, hhist, hz0, hp10, hsn⟩ := id hκ
  have hI := hV.bd
  have hs10 : ∀ i, 0 ≤ S 10 i ∧ S 10 i ≤ 1 := hI.2.2.2.2.2.2.2.2.2.2.2.2.2.1
  refine x_ofWH (cc := cL_letShare) (maxL := 2) (ret := (some .float)) (by decide) rfl ?_
  intro p e s m args below meth c s₁ B hml htab hv
  obtain ⟨rfl, ⟨hsz, hP, hK, hD0⟩, hC⟩ := hv
  have hx := B.exec
  have hb := B.bytes
  have hr := B.returns
  have hts := atoms_spec (ws := .codeWith yL_letShare cL_letShare 2 (some .float) [(0, 4, 5, 138)] :: GW) B.pre
  have htg : ∀ w ∈ GW, w.before _ s = true := fun w h => hts w (List.mem_cons_of_mem _ h)
  have hown : s.vm.findClass RL = some m.cls := findClass_of_methodNamed B.named
  have hlocks := B.notSynchronized
  subst hsz
  have hD := hD0.self (sz := s.heap.size)
  generalize hAe : va_A (brkU ck ka ad ra (Z, O, U, X, S, T, P, I, V, N, Y, Q)) s.heap.size = A at hD hC ⊢
  have hA : ∀ q : Nat, s.heap.size ≤ q → A q := fun q h => by rw [← hAe]; exact Or.inr h
  have hS : va_S A s.heap s.heap [] := va_S.rf
  have hP : va_P dg vwCl (brkW ck ka ad ra Z O U X S T P I V N Y Q) s.heap := hP
  have hD : va_D A (brkW ck ka ad ra Z O U X S T P I V N Y Q) := hD
  have hl := lv_entry ([.ref ((ad 7) 0)]) (n := 2) (Nat.le_of_ble_eq_true rfl)
  rw [lg_entry_eq]
  generalize (lg_sl ([.ref ((ad 7) 0)]) ++ List.replicate (2 - (lg_sl ([.ref ((ad 7) 0)])).length) Slot.unset).toArray = ls at hl ⊢
  have hl : lv_has ls 2 [(0, .ref ((ad 7) 0))] := hl
  refine lv_aload_n hx hb dL_letShare_0 rfl (lv_at hl 0 rfl) ?_
  refine xl_callf0 (M := brkW ck ka ad ra Z O U X S T P I V N Y Q) (Mf := fun u : Unit => brkW ck ka ad ra Z O U X S T P I V N Y Q) (MX := fun u : Unit => brkW ck ka ad ra Z O U X S T P I V N Y Q) hP hD hS hA (fun hPm hDm => vx_runV (As := []) (rest := []) ⟨hx, hb, hml, hown, htg⟩ (x_letShare l dg ck ka ad ra Z O U X S T P I V N Y Q  _ hI hst) (cwV 0 htg (gwV wq_1499 wq_1500 wq_1501 wq_1 wq_1502) rfl rfl rfl (by decide +kernel) ⟨Nat.le_of_ble_eq_true rfl, Nat.le_of_ble_eq_true rfl⟩) (wrK_preV hK hPm hDm hC hS hA 0 10 rfl rfl) rfl rfl hl.1 rfl (lv_room (Nat.le_of_ble_eq_true rfl)) dL_letShare_1 ⟨Nat.le_of_ble_eq_true rfl, Nat.le_of_ble_eq_true rfl⟩) (fun E9 ce9 q9 u9 H locs hE9 hP hD hS g1 g2 g3 => ?_) (fun r9 u9 H locs hn9 hP hD hS => ?_)
  · obtain ⟨rfl, hc⟩ := hE9
    refine vx_catch (own := RL) (name := "java/lang/ArithmeticException") hown [] ⟨0, 4, 5, 138⟩ [] (by rw [htab]; rfl) (fun z hz => absurd hz List.not_mem_nil) (by decide) (by decide) (htg _ wq_1472) (va_Nw.use rfl (hC.nw (w := .castable "java/lang/ArithmeticException" "java/lang/ArithmeticException") (by decide +kernel))) g1 g2 g3 ?_
    refine W.eq (g2 := F0 m 5 ls [.ref q9]) rfl ?_
    refine lv_astore_n (lv' := [(1, .ref q9), (0, .ref ((ad 7) 0))]) hx hb dL_letShare_5 rfl hl (by decide) rfl (fun ls hl => ?_)
    refine lv_ldcf hx hb hown (htg _ wq_1503) dL_letShare_6 ?_
    exact W.widen (k := 1) (n := 6) (Nat.le_of_ble_eq_true rfl) (Nat.le_of_ble_eq_true rfl) (W.fret (v := _) hx hb hr (fun t9 ht9 hW9 => ⟨⟨_, ((Z, O, U, X, S, T, P, I, V, N, Y, Q)), rfl, ⟨(if_pos hc).symm, ⟨rfl, rfl, rfl, rfl, rfl, ⟨hln, htx, hkv⟩, hu0, hY⟩⟩, by rw [ht9]; exact hP, by rw [hAe]; exact hD⟩, hS.F ht9⟩) hS.2.2 dL_letShare_8)
  have hP : va_P dg vwCl (brkW ck ka ad ra Z O U X S T P I V N Y Q) H := hP
  have hD : va_D A (brkW ck ka ad ra Z O U X S T P I V N Y Q) := hD
  exact W.widen (k := 1) (n := 6) (Nat.le_of_ble_eq_true rfl) (Nat.le_of_ble_eq_true rfl) (W.fret (v := _) hx hb hr (fun t9 ht9 hW9 => ⟨⟨_, ((Z, O, U, X, S, T, P, I, V, N, Y, Q)), rfl, ⟨hn9.1.trans (if_neg hn9.2).symm, ⟨rfl, rfl, rfl, rfl, rfl, ⟨hln, htx, hkv⟩, hu0, hY⟩⟩, by rw [ht9]; exact hP, by rw [hAe]; exact hD⟩, hS.F ht9⟩) hS.2.2 dL_letShare_4)
