/-! the law: its loop -/
set_option maxHeartbeats 4000000 in
set_option maxRecDepth 100000 in
theorem law_loop {p : Program} {l : Launch} {e : Env} {s : State} {m : MethodId} {below : List Frame} {meth : Method} {c : Code} {dg : va_G} {ck : Nat → ClassId} {ka : Nat → Nat} {b L : Nat} {xs : Nat → Int32} {A : Nat → Prop} {ad ra : Nat → Nat → Nat} {mo : Nat → Nat} {oa od : Nat} {Qf : State → Prop} (C0 : LX p l s m c dg ck ka b L xs A)
    (hend : ∀ (H : Heap) (locs : List Loc) (ls : Array Slot), va_S A s.heap H locs → W p l e room_1 s m #[Value.ref b] below meth c H locs 603072 7207018 Qf (F0 m 3329 ls [])) :
    ∀ (n k : Nat) (i : Int), i = 4 * (k : Int) → L < 4 * (k + n) → 4 * k ≤ L → ∀ (bb : BU) (F1 F2 F3 F4 : Int → Int) (M : St) (D : Nat → Int64) (E : Nat → UInt64) (H : Heap) (locs : List Loc) (ls : Array Slot), LI (775 * i) (bb.1) (bb.2.2.1) (bb.2.2.2.1) (bb.2.2.2.2.1) (bb.2.2.2.2.2.2.1) (bb.2.2.2.2.2.2.2.1) (bb.2.2.2.2.2.2.2.2.2.2.1) (bb.2.2.2.2.2.2.2.2.2.2.2) F2 F3 M → va_P dg vwCl (lawW ck ka ad ra mo oa od bb F1 F2 F3 F4 M D E) H → va_D A (lawW ck ka ad ra mo oa od bb F1 F2 F3 F4 M D E) → va_S A s.heap H locs → lv_has ls 9 [(0, .ref b), (1, .ref (ad 7 0)), (2, .ref (mo 0)), (3, .ref oa), (4, .ref od), (5, .int (zI i))] → W p l e room_1 s m #[Value.ref b] below meth c H locs (177 + 3 * k) (3064 + 18 * k) Qf (F0 m 28 ls []) := by
  obtain ⟨hx, hb, hml, hown, htg, hX, hbl, hbA, hK, hC, hA, hst, hL⟩ := id C0
  intro n
  induction n with
  | zero =>
    intro k i hi h1 h2
    exact absurd h1 (by omega)
  | succ n ih =>
    intro k i hi h1 h2 bb F1 F2 F3 F4 M D E H locs ls hLI hP hD hS hl
    refine lv_iload hx hb dL_law_28 (lv_at hl 5 rfl) ?_
    refine lv_aload_n hx hb dL_law_30 rfl (lv_at hl 0 rfl) ?_
    refine x_slen hx hb hX hbl hbA hS dL_law_31 ?_
    refine x_iconst hx hb dL_law_32 ?_
    refine x_isub hx hb dL_law_33 ?_
    refine x_icmp_gt (tgt := 3329) hx hb dL_law_34 (by decide) (by omega) (by omega) (fun c34 => ?_) (fun c34 => ?_)
    · exact W.widen (k := 603072) (n := 7207018) (by omega) (by omega) (hend _ _ _ hS)
    · refine lv_aload_n hx hb dL_law_37 rfl (lv_at hl 0 rfl) ?_
      refine lv_iload hx hb dL_law_38 (lv_at hl 5 rfl) ?_
      obtain ⟨w, hw⟩ : ∃ w : Int, (xs i.toNat).toInt = w := ⟨_, rfl⟩
      refine x_sld hx hb hX hbl hbA hS (by omega) (by omega) hw dL_law_40 ?_
      refine x_bipush hx hb dL_law_41 (by decide) ?_
      refine lv_iand hx hb dL_law_43 ?_
      obtain ⟨q, hq, hq0, hq63⟩ := i_and63 (zI w)
      refine W.eq (g2 := F0 m 44 ls [.int (zI q)]) (by rw [hq] <;> rfl) ?_
      have hi4 : 0 ≤ i ∧ i + 4 ≤ L := by omega
      have hkk : LKK p l e s m below meth c dg ck ka ad ra mo oa od b A Qf i (177 + 3 * k) (3064 + 18 * k) := by
        intro bb F1 F2 F3 F4 M D E H locs ls hLI hP hD hS hl
        refine lv_iinc (v := zI (i + 4)) (lv' := [(5, .int (zI (i + 4))), (0, .ref b), (1, .ref (ad 7 0)), (2, .ref (mo 0)), (3, .ref oa), (4, .ref od)]) hx hb dL_law_3323 hl (k := 5) rfl (zI_add _ _) (by decide) rfl (fun ls hl => ?_)
        refine lv_goto (tgt := 28) hx hb dL_law_3326 (by decide) ?_
        have hl := lv_sub (l' := [(0, .ref b), (1, .ref (ad 7 0)), (2, .ref (mo 0)), (3, .ref oa), (4, .ref od), (5, .int (zI (i + 4)))]) hl [1, 2, 3, 4, 5, 0] rfl
        rw [show 177 + 3 * k + 3 = 177 + 3 * (k + 1) by omega, show 3064 + 18 * k + 18 = 3064 + 18 * (k + 1) by omega]
        rw [show 775 * i + 3100 = 775 * (i + 4) by omega] at hLI
        exact ih (k + 1) (i + 4) (by omega) (by omega) (by omega) bb F1 F2 F3 F4 M D E H locs ls hLI hP hD hS hl
      clear ih
      obtain ⟨Z, O, U, X, S, T, P, I, V, N, Y, Q⟩ := bb
      have hLI : LI (775 * i) Z U X S P I Y Q F2 F3 M := hLI
      have hP : va_P dg vwCl (brkW ck ka ad ra Z O U X S T P I V N Y Q ++ (modelC ck mo (encZ S) F1 F2 F3 F4 M ++ (lngC ck oa D ++ (dblC ck od E)))) H := hP
      have hD : va_D A (brkW ck ka ad ra Z O U X S T P I V N Y Q ++ (modelC ck mo (encZ S) F1 F2 F3 F4 M ++ (lngC ck oa D ++ (dblC ck od E)))) := hD
      by_cases c0_63 : q ≤ 31
      · by_cases c0_31 : q ≤ 15
        · by_cases c0_15 : q ≤ 7
          · by_cases c0_7 : q ≤ 3
            · by_cases c0_3 : q ≤ 1
              · by_cases c0_1 : q ≤ 0
                · obtain rfl : q = 0 := by omega
                  refine lv_tableIn (tgt := 312) (off := 268) hx hb dL_law_44 (by decide) (by decide) (by decide) (by decide) ?_
                  exact lc_0 C0 hi4 (by omega) (by omega) hkk hLI hP hD hS hl
                · obtain rfl : q = 1 := by omega
                  refine lv_tableIn (tgt := 392) (off := 348) hx hb dL_law_44 (by decide) (by decide) (by decide) (by decide) ?_
                  exact lc_1 C0 hi4 (by omega) (by omega) hkk hLI hP hD hS hl
              · by_cases c2_3 : q ≤ 2
                · obtain rfl : q = 2 := by omega
                  refine lv_tableIn (tgt := 460) (off := 416) hx hb dL_law_44 (by decide) (by decide) (by decide) (by decide) ?_
                  exact lc_2 C0 hi4 (by omega) (by omega) hkk hLI hP hD hS hl
                · obtain rfl : q = 3 := by omega
                  refine lv_tableIn (tgt := 540) (off := 496) hx hb dL_law_44 (by decide) (by decide) (by decide) (by decide) ?_
                  exact lc_3 C0 hi4 (by omega) (by omega) hkk hLI hP hD hS hl
            · by_cases c4_7 : q ≤ 5
              · by_cases c4_5 : q ≤ 4
                · obtain rfl : q = 4 := by omega
                  refine lv_tableIn (tgt := 608) (off := 564) hx hb dL_law_44 (by decide) (by decide) (by decide) (by decide) ?_
                  exact lc_4 C0 hi4 (by omega) (by omega) hkk hLI hP hD hS hl
                · obtain rfl : q = 5 := by omega
                  refine lv_tableIn (tgt := 671) (off := 627) hx hb dL_law_44 (by decide) (by decide) (by decide) (by decide) ?_
                  exact lc_5 C0 hi4 (by omega) (by omega) hkk hLI hP hD hS hl
              · by_cases c6_7 : q ≤ 6
                · obtain rfl : q = 6 := by omega
                  refine lv_tableIn (tgt := 727) (off := 683) hx hb dL_law_44 (by decide) (by decide) (by decide) (by decide) ?_
                  exact lc_6 C0 hi4 (by omega) (by omega) hkk hLI hP hD hS hl
                · obtain rfl : q = 7 := by omega
                  refine lv_tableIn (tgt := 740) (off := 696) hx hb dL_law_44 (by decide) (by decide) (by decide) (by decide) ?_
                  exact lc_7 C0 hi4 (by omega) (by omega) hkk hLI hP hD hS hl
          · by_cases c8_15 : q ≤ 11
            · by_cases c8_11 : q ≤ 9
              · by_cases c8_9 : q ≤ 8
                · obtain rfl : q = 8 := by omega
                  refine lv_tableIn (tgt := 796) (off := 752) hx hb dL_law_44 (by decide) (by decide) (by decide) (by decide) ?_
                  exact lc_8 C0 hi4 (by omega) (by omega) hkk hLI hP hD hS hl
                · obtain rfl : q = 9 := by omega
                  refine lv_tableIn (tgt := 852) (off := 808) hx hb dL_law_44 (by decide) (by decide) (by decide) (by decide) ?_
                  exact lc_9 C0 hi4 (by omega) (by omega) hkk hLI hP hD hS hl
              · by_cases c10_11 : q ≤ 10
                · obtain rfl : q = 10 := by omega
                  refine lv_tableIn (tgt := 908) (off := 864) hx hb dL_law_44 (by decide) (by decide) (by decide) (by decide) ?_
                  exact lc_10 C0 hi4 (by omega) (by omega) hkk hLI hP hD hS hl
                · obtain rfl : q = 11 := by omega
                  refine lv_tableIn (tgt := 964) (off := 920) hx hb dL_law_44 (by decide) (by decide) (by decide) (by decide) ?_
                  exact lc_11 C0 hi4 (by omega) (by omega) hkk hLI hP hD hS hl
            · by_cases c12_15 : q ≤ 13
              · by_cases c12_13 : q ≤ 12
                · obtain rfl : q = 12 := by omega
                  refine lv_tableIn (tgt := 977) (off := 933) hx hb dL_law_44 (by decide) (by decide) (by decide) (by decide) ?_
                  exact lc_12 C0 hi4 (by omega) (by omega) hkk hLI hP hD hS hl
                · obtain rfl : q = 13 := by omega
                  refine lv_tableIn (tgt := 1033) (off := 989) hx hb dL_law_44 (by decide) (by decide) (by decide) (by decide) ?_
                  exact lc_13 C0 hi4 (by omega) (by omega) hkk hLI hP hD hS hl
              · by_cases c14_15 : q ≤ 14
                · obtain rfl : q = 14 := by omega
                  refine lv_tableIn (tgt := 1096) (off := 1052) hx hb dL_law_44 (by decide) (by decide) (by decide) (by decide) ?_
                  exact lc_14 C0 hi4 (by omega) (by omega) hkk hLI hP hD hS hl
                · obtain rfl : q = 15 := by omega
                  refine lv_tableIn (tgt := 1109) (off := 1065) hx hb dL_law_44 (by decide) (by decide) (by decide) (by decide) ?_
                  exact lc_15 C0 hi4 (by omega) (by omega) hkk hLI hP hD hS hl
        · by_cases c16_31 : q ≤ 23
          · by_cases c16_23 : q ≤ 19
            · by_cases c16_19 : q ≤ 17
              · by_cases c16_17 : q ≤ 16
                · obtain rfl : q = 16 := by omega
                  refine lv_tableIn (tgt := 1177) (off := 1133) hx hb dL_law_44 (by decide) (by decide) (by decide) (by decide) ?_
                  exact lc_16 C0 hi4 (by omega) (by omega) hkk hLI hP hD hS hl
                · obtain rfl : q = 17 := by omega
                  refine lv_tableIn (tgt := 1245) (off := 1201) hx hb dL_law_44 (by decide) (by decide) (by decide) (by decide) ?_
                  exact lc_17 C0 hi4 (by omega) (by omega) hkk hLI hP hD hS hl
              · by_cases c18_19 : q ≤ 18
                · obtain rfl : q = 18 := by omega
                  refine lv_tableIn (tgt := 1308) (off := 1264) hx hb dL_law_44 (by decide) (by decide) (by decide) (by decide) ?_
                  exact lc_18 C0 hi4 (by omega) (by omega) hkk hLI hP hD hS hl
                · obtain rfl : q = 19 := by omega
                  refine lv_tableIn (tgt := 1321) (off := 1277) hx hb dL_law_44 (by decide) (by decide) (by decide) (by decide) ?_
                  exact lc_19 C0 hi4 (by omega) (by omega) hkk hLI hP hD hS hl
            · by_cases c20_23 : q ≤ 21
              · by_cases c20_21 : q ≤ 20
                · obtain rfl : q = 20 := by omega
                  refine lv_tableIn (tgt := 1377) (off := 1333) hx hb dL_law_44 (by decide) (by decide) (by decide) (by decide) ?_
                  exact lc_20 C0 hi4 (by omega) (by omega) hkk hLI hP hD hS hl
                · obtain rfl : q = 21 := by omega
                  refine lv_tableIn (tgt := 1445) (off := 1401) hx hb dL_law_44 (by decide) (by decide) (by decide) (by decide) ?_
                  exact lc_21 C0 hi4 (by omega) (by omega) hkk hLI hP hD hS hl
              · by_cases c22_23 : q ≤ 22
                · obtain rfl : q = 22 := by omega
                  refine lv_tableIn (tgt := 1458) (off := 1414) hx hb dL_law_44 (by decide) (by decide) (by decide) (by decide) ?_
                  exact lc_22 C0 hi4 (by omega) (by omega) hkk hLI hP hD hS hl
                · obtain rfl : q = 23 := by omega
                  refine lv_tableIn (tgt := 1514) (off := 1470) hx hb dL_law_44 (by decide) (by decide) (by decide) (by decide) ?_
                  exact lc_23 C0 hi4 (by omega) (by omega) hkk hLI hP hD hS hl
          · by_cases c24_31 : q ≤ 27
            · by_cases c24_27 : q ≤ 25
              · by_cases c24_25 : q ≤ 24
                · obtain rfl : q = 24 := by omega
                  refine lv_tableIn (tgt := 1570) (off := 1526) hx hb dL_law_44 (by decide) (by decide) (by decide) (by decide) ?_
                  exact lc_24 C0 hi4 (by omega) (by omega) hkk hLI hP hD hS hl
                · obtain rfl : q = 25 := by omega
                  refine lv_tableIn (tgt := 1626) (off := 1582) hx hb dL_law_44 (by decide) (by decide) (by decide) (by decide) ?_
                  exact lc_25 C0 hi4 (by omega) (by omega) hkk hLI hP hD hS hl
              · by_cases c26_27 : q ≤ 26
                · obtain rfl : q = 26 := by omega
                  refine lv_tableIn (tgt := 1701) (off := 1657) hx hb dL_law_44 (by decide) (by decide) (by decide) (by decide) ?_
                  exact lc_26 C0 hi4 (by omega) (by omega) hkk hLI hP hD hS hl
                · obtain rfl : q = 27 := by omega
                  refine lv_tableIn (tgt := 1757) (off := 1713) hx hb dL_law_44 (by decide) (by decide) (by decide) (by decide) ?_
                  exact lc_27 C0 hi4 (by omega) (by omega) hkk hLI hP hD hS hl
            · by_cases c28_31 : q ≤ 29
              · by_cases c28_29 : q ≤ 28
                · obtain rfl : q = 28 := by omega
                  refine lv_tableIn (tgt := 1837) (off := 1793) hx hb dL_law_44 (by decide) (by decide) (by decide) (by decide) ?_
                  exact lc_28 C0 hi4 (by omega) (by omega) hkk hLI hP hD hS hl
                · obtain rfl : q = 29 := by omega
                  refine lv_tableIn (tgt := 1893) (off := 1849) hx hb dL_law_44 (by decide) (by decide) (by decide) (by decide) ?_
                  exact lc_29 C0 hi4 (by omega) (by omega) hkk hLI hP hD hS hl
              · by_cases c30_31 : q ≤ 30
                · obtain rfl : q = 30 := by omega
                  refine lv_tableIn (tgt := 1961) (off := 1917) hx hb dL_law_44 (by decide) (by decide) (by decide) (by decide) ?_
                  exact lc_30 C0 hi4 (by omega) (by omega) hkk hLI hP hD hS hl
                · obtain rfl : q = 31 := by omega
                  refine lv_tableIn (tgt := 2024) (off := 1980) hx hb dL_law_44 (by decide) (by decide) (by decide) (by decide) ?_
                  exact lc_31 C0 hi4 (by omega) (by omega) hkk hLI hP hD hS hl
      · by_cases c32_63 : q ≤ 47
        · by_cases c32_47 : q ≤ 39
          · by_cases c32_39 : q ≤ 35
            · by_cases c32_35 : q ≤ 33
              · by_cases c32_33 : q ≤ 32
                · obtain rfl : q = 32 := by omega
                  refine lv_tableIn (tgt := 2080) (off := 2036) hx hb dL_law_44 (by decide) (by decide) (by decide) (by decide) ?_
                  exact lc_32 C0 hi4 (by omega) (by omega) hkk hLI hP hD hS hl
                · obtain rfl : q = 33 := by omega
                  refine lv_tableIn (tgt := 2136) (off := 2092) hx hb dL_law_44 (by decide) (by decide) (by decide) (by decide) ?_
                  exact lc_33 C0 hi4 (by omega) (by omega) hkk hLI hP hD hS hl
              · by_cases c34_35 : q ≤ 34
                · obtain rfl : q = 34 := by omega
                  refine lv_tableIn (tgt := 2192) (off := 2148) hx hb dL_law_44 (by decide) (by decide) (by decide) (by decide) ?_
                  exact lc_34 C0 hi4 (by omega) (by omega) hkk hLI hP hD hS hl
                · obtain rfl : q = 35 := by omega
                  refine lv_tableIn (tgt := 2248) (off := 2204) hx hb dL_law_44 (by decide) (by decide) (by decide) (by decide) ?_
                  exact lc_35 C0 hi4 (by omega) (by omega) hkk hLI hP hD hS hl
            · by_cases c36_39 : q ≤ 37
              · by_cases c36_37 : q ≤ 36
                · obtain rfl : q = 36 := by omega
                  refine lv_tableIn (tgt := 2304) (off := 2260) hx hb dL_law_44 (by decide) (by decide) (by decide) (by decide) ?_
                  exact lc_36 C0 hi4 (by omega) (by omega) hkk hLI hP hD hS hl
                · obtain rfl : q = 37 := by omega
                  refine lv_tableIn (tgt := 2317) (off := 2273) hx hb dL_law_44 (by decide) (by decide) (by decide) (by decide) ?_
                  exact lc_37 C0 hi4 (by omega) (by omega) hkk hLI hP hD hS hl
              · by_cases c38_39 : q ≤ 38
                · obtain rfl : q = 38 := by omega
                  refine lv_tableIn (tgt := 2373) (off := 2329) hx hb dL_law_44 (by decide) (by decide) (by decide) (by decide) ?_
                  exact lc_38 C0 hi4 (by omega) (by omega) hkk hLI hP hD hS hl
                · obtain rfl : q = 39 := by omega
                  refine lv_tableIn (tgt := 2429) (off := 2385) hx hb dL_law_44 (by decide) (by decide) (by decide) (by decide) ?_
                  exact lc_39 C0 hi4 (by omega) (by omega) hkk hLI hP hD hS hl
          · by_cases c40_47 : q ≤ 43
            · by_cases c40_43 : q ≤ 41
              · by_cases c40_41 : q ≤ 40
                · obtain rfl : q = 40 := by omega
                  refine lv_tableIn (tgt := 2442) (off := 2398) hx hb dL_law_44 (by decide) (by decide) (by decide) (by decide) ?_
                  exact lc_40 C0 hi4 (by omega) (by omega) hkk hLI hP hD hS hl
                · obtain rfl : q = 41 := by omega
                  refine lv_tableIn (tgt := 2455) (off := 2411) hx hb dL_law_44 (by decide) (by decide) (by decide) (by decide) ?_
                  exact lc_41 C0 hi4 (by omega) (by omega) hkk hLI hP hD hS hl
              · by_cases c42_43 : q ≤ 42
                · obtain rfl : q = 42 := by omega
                  refine lv_tableIn (tgt := 2468) (off := 2424) hx hb dL_law_44 (by decide) (by decide) (by decide) (by decide) ?_
                  exact lc_42 C0 hi4 (by omega) (by omega) hkk hLI hP hD hS hl
                · obtain rfl : q = 43 := by omega
                  refine lv_tableIn (tgt := 2481) (off := 2437) hx hb dL_law_44 (by decide) (by decide) (by decide) (by decide) ?_
                  exact lc_43 C0 hi4 (by omega) (by omega) hkk hLI hP hD hS hl
            · by_cases c44_47 : q ≤ 45
              · by_cases c44_45 : q ≤ 44
                · obtain rfl : q = 44 := by omega
                  refine lv_tableIn (tgt := 2494) (off := 2450) hx hb dL_law_44 (by decide) (by decide) (by decide) (by decide) ?_
                  exact lc_44 C0 hi4 (by omega) (by omega) hkk hLI hP hD hS hl
                · obtain rfl : q = 45 := by omega
                  refine lv_tableIn (tgt := 2507) (off := 2463) hx hb dL_law_44 (by decide) (by decide) (by decide) (by decide) ?_
                  exact lc_45 C0 hi4 (by omega) (by omega) hkk hLI hP hD hS hl
              · by_cases c46_47 : q ≤ 46
                · obtain rfl : q = 46 := by omega
                  refine lv_tableIn (tgt := 2520) (off := 2476) hx hb dL_law_44 (by decide) (by decide) (by decide) (by decide) ?_
                  exact lc_46 C0 hi4 (by omega) (by omega) hkk hLI hP hD hS hl
                · obtain rfl : q = 47 := by omega
                  refine lv_tableIn (tgt := 2576) (off := 2532) hx hb dL_law_44 (by decide) (by decide) (by decide) (by decide) ?_
                  exact lc_47 C0 hi4 (by omega) (by omega) hkk hLI hP hD hS hl
        · by_cases c48_63 : q ≤ 55
          · by_cases c48_55 : q ≤ 51
            · by_cases c48_51 : q ≤ 49
              · by_cases c48_49 : q ≤ 48
                · obtain rfl : q = 48 := by omega
                  refine lv_tableIn (tgt := 2632) (off := 2588) hx hb dL_law_44 (by decide) (by decide) (by decide) (by decide) ?_
                  exact lc_48 C0 hi4 (by omega) (by omega) hkk hLI hP hD hS hl
                · obtain rfl : q = 49 := by omega
                  refine lv_tableIn (tgt := 2697) (off := 2653) hx hb dL_law_44 (by decide) (by decide) (by decide) (by decide) ?_
                  exact lc_49 C0 hi4 (by omega) (by omega) hkk hLI hP hD hS hl
              · by_cases c50_51 : q ≤ 50
                · obtain rfl : q = 50 := by omega
                  refine lv_tableIn (tgt := 2763) (off := 2719) hx hb dL_law_44 (by decide) (by decide) (by decide) (by decide) ?_
                  exact lc_50 C0 hi4 (by omega) (by omega) hkk hLI hP hD hS hl
                · obtain rfl : q = 51 := by omega
                  refine lv_tableIn (tgt := 2776) (off := 2732) hx hb dL_law_44 (by decide) (by decide) (by decide) (by decide) ?_
                  exact lc_51 C0 hi4 (by omega) (by omega) hkk hLI hP hD hS hl
            · by_cases c52_55 : q ≤ 53
              · by_cases c52_53 : q ≤ 52
                · obtain rfl : q = 52 := by omega
                  refine lv_tableIn (tgt := 2832) (off := 2788) hx hb dL_law_44 (by decide) (by decide) (by decide) (by decide) ?_
                  exact lc_52 C0 hi4 (by omega) (by omega) hkk hLI hP hD hS hl
                · obtain rfl : q = 53 := by omega
                  refine lv_tableIn (tgt := 2888) (off := 2844) hx hb dL_law_44 (by decide) (by decide) (by decide) (by decide) ?_
                  exact lc_53 C0 hi4 (by omega) (by omega) hkk hLI hP hD hS hl
              · by_cases c54_55 : q ≤ 54
                · obtain rfl : q = 54 := by omega
                  refine lv_tableIn (tgt := 2944) (off := 2900) hx hb dL_law_44 (by decide) (by decide) (by decide) (by decide) ?_
                  exact lc_54 C0 hi4 (by omega) (by omega) hkk hLI hP hD hS hl
                · obtain rfl : q = 55 := by omega
                  refine lv_tableIn (tgt := 3002) (off := 2958) hx hb dL_law_44 (by decide) (by decide) (by decide) (by decide) ?_
                  exact lc_55 C0 hi4 (by omega) (by omega) hkk hLI hP hD hS hl
          · by_cases c56_63 : q ≤ 59
            · by_cases c56_59 : q ≤ 57
              · by_cases c56_57 : q ≤ 56
                · obtain rfl : q = 56 := by omega
                  refine lv_tableIn (tgt := 3046) (off := 3002) hx hb dL_law_44 (by decide) (by decide) (by decide) (by decide) ?_
                  exact lc_56 C0 hi4 (by omega) (by omega) hkk hLI hP hD hS hl
                · obtain rfl : q = 57 := by omega
                  refine lv_tableIn (tgt := 3090) (off := 3046) hx hb dL_law_44 (by decide) (by decide) (by decide) (by decide) ?_
                  exact lc_57 C0 hi4 (by omega) (by omega) hkk hLI hP hD hS hl
              · by_cases c58_59 : q ≤ 58
                · obtain rfl : q = 58 := by omega
                  refine lv_tableIn (tgt := 3134) (off := 3090) hx hb dL_law_44 (by decide) (by decide) (by decide) (by decide) ?_
                  exact lc_58 C0 hi4 (by omega) (by omega) hkk hLI hP hD hS hl
                · obtain rfl : q = 59 := by omega
                  refine lv_tableIn (tgt := 3178) (off := 3134) hx hb dL_law_44 (by decide) (by decide) (by decide) (by decide) ?_
                  exact lc_59 C0 hi4 (by omega) (by omega) hkk hLI hP hD hS hl
            · by_cases c60_63 : q ≤ 61
              · by_cases c60_61 : q ≤ 60
                · obtain rfl : q = 60 := by omega
                  refine lv_tableIn (tgt := 3222) (off := 3178) hx hb dL_law_44 (by decide) (by decide) (by decide) (by decide) ?_
                  exact lc_60 C0 hi4 (by omega) (by omega) hkk hLI hP hD hS hl
                · obtain rfl : q = 61 := by omega
                  refine lv_tableIn (tgt := 3266) (off := 3222) hx hb dL_law_44 (by decide) (by decide) (by decide) (by decide) ?_
                  exact lc_61 C0 hi4 (by omega) (by omega) hkk hLI hP hD hS hl
              · by_cases c62_63 : q ≤ 62
                · obtain rfl : q = 62 := by omega
                  refine lv_tableIn (tgt := 3279) (off := 3235) hx hb dL_law_44 (by decide) (by decide) (by decide) (by decide) ?_
                  exact lc_62 C0 hi4 (by omega) (by omega) hkk hLI hP hD hS hl
                · obtain rfl : q = 63 := by omega
                  refine lv_tableOut (tgt := 3323) hx hb dL_law_44 (Or.inr (by decide)) (by decide) ?_
                  exact W.widen (k := 177 + 3 * k + 3) (n := 3064 + 18 * k + 18) (by omega) (by omega) (hkk (Z, O, U, X, S, T, P, I, V, N, Y, Q) F1 F2 F3 F4 M D E H locs ls (hLI.mono (by omega) (by omega)) hP hD hS hl)
