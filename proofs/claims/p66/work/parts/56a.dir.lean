/-! the broker's methods that the law calls itself -/

/-- the broker's benchCount, from the law -/
theorem g_benchCount (l : Launch) (dg : va_G) (ck : Nat → ClassId) (ka : Nat → Nat) (ad ra : Nat → Nat → Nat) (S : St) (X : Nat → Int) (Q : Nat → St) (P : St) (z : Int) (b : BU) (sz : Nat) {n : Int} (hκ : KI n S X Q P z) (hR : RO S X Q P z b) : Met l yX8_benchCount (.code yX8_benchCount cX8_benchCount 1 (some .int) :: GW) ({ frames := 0, cells := 0, slots := 0, locals := 0 }) (va_Pc [.ref ((ad 7) 0)] (wrK dg ck ka sz (brkU ck ka ad ra b))) (va_Qi (fun r (u : BU) => r = zI (S 0 0) ∧ RO S X Q P z u) (fun u t9 => wrQ dg sz (brkU ck ka ad ra b) (brkU ck ka ad ra u) t9) (va_A (brkU ck ka ad ra b) sz)) 0 0 (va_A (brkU ck ka ad ra b) sz) := by
  obtain ⟨Z, O, U, X', S', T, P', I, V, N, Y, Q'⟩ := b
  obtain ⟨e1, e2, e3, e4, e5, ⟨hln, htx, hkv⟩, hu0, hY⟩ := hR
  have e1 : S = S' := e1
  have e2 : X = X' := e2
  have e3 : Q = Q' := e3
  have e4 : P = P' := e4
  have e5 : z = Z 0 := e5
  subst e1 e2 e3 e4 e5
  obtain ⟨⟨hV, hV2⟩, ⟨hn, hz⟩, hq10, hhist, hz0, hp10, hsn⟩ := id hκ
  have hI := hV.bd
  have hs10 : ∀ i, 0 ≤ S 10 i ∧ S 10 i ≤ 1 := hI.2.2.2.2.2.2.2.2.2.2.2.2.2.1
  refine MetFree.mono (x_benchCount l dg ck ka ad ra Z O U X S T P I V N Y Q sz ) (fun _ _ h => h) (fun _ _ _ _ _ h => h) (fun a s o t _ h => ⟨?_, h.2⟩)
  obtain ⟨⟨r, u, h1, h2, h3⟩, h4⟩ := h.1
  exact ⟨⟨r, (Z, O, U, X, S, T, P, I, V, N, Y, Q), h1, ⟨h2, ⟨rfl, rfl, rfl, rfl, rfl, ⟨hln, htx, hkv⟩, hu0, hY⟩⟩, h3⟩, h4⟩

/-- the broker's fountainCount, from the law -/
theorem g_fountainCount (l : Launch) (dg : va_G) (ck : Nat → ClassId) (ka : Nat → Nat) (ad ra : Nat → Nat → Nat) (S : St) (X : Nat → Int) (Q : Nat → St) (P : St) (z : Int) (b : BU) (sz : Nat) {n : Int} (hκ : KI n S X Q P z) (hR : RO S X Q P z b) : Met l yX8_fountainCount (.code yX8_fountainCount cX8_fountainCount 1 (some .int) :: GW) ({ frames := 0, cells := 0, slots := 0, locals := 0 }) (va_Pc [.ref ((ad 7) 0)] (wrK dg ck ka sz (brkU ck ka ad ra b))) (va_Qi (fun r (u : BU) => r = zI (S 0 1) ∧ RO S X Q P z u) (fun u t9 => wrQ dg sz (brkU ck ka ad ra b) (brkU ck ka ad ra u) t9) (va_A (brkU ck ka ad ra b) sz)) 0 0 (va_A (brkU ck ka ad ra b) sz) := by
  obtain ⟨Z, O, U, X', S', T, P', I, V, N, Y, Q'⟩ := b
  obtain ⟨e1, e2, e3, e4, e5, ⟨hln, htx, hkv⟩, hu0, hY⟩ := hR
  have e1 : S = S' := e1
  have e2 : X = X' := e2
  have e3 : Q = Q' := e3
  have e4 : P = P' := e4
  have e5 : z = Z 0 := e5
  subst e1 e2 e3 e4 e5
  obtain ⟨⟨hV, hV2⟩, ⟨hn, hz⟩, hq10, hhist, hz0, hp10, hsn⟩ := id hκ
  have hI := hV.bd
  have hs10 : ∀ i, 0 ≤ S 10 i ∧ S 10 i ≤ 1 := hI.2.2.2.2.2.2.2.2.2.2.2.2.2.1
  refine MetFree.mono (x_fountainCount l dg ck ka ad ra Z O U X S T P I V N Y Q sz ) (fun _ _ h => h) (fun _ _ _ _ _ h => h) (fun a s o t _ h => ⟨?_, h.2⟩)
  obtain ⟨⟨r, u, h1, h2, h3⟩, h4⟩ := h.1
  exact ⟨⟨r, (Z, O, U, X, S, T, P, I, V, N, Y, Q), h1, ⟨h2, ⟨rfl, rfl, rfl, rfl, rfl, ⟨hln, htx, hkv⟩, hu0, hY⟩⟩, h3⟩, h4⟩

/-- the broker's noiseLimit, from the law -/
theorem g_noiseLimit (l : Launch) (dg : va_G) (ck : Nat → ClassId) (ka : Nat → Nat) (ad ra : Nat → Nat → Nat) (S : St) (X : Nat → Int) (Q : Nat → St) (P : St) (z : Int) (b : BU) (sz : Nat) {n : Int} (hκ : KI n S X Q P z) (hR : RO S X Q P z b) : Met l yX8_noiseLimit (.code yX8_noiseLimit cX8_noiseLimit 1 (some .int) :: GW) ({ frames := 0, cells := 0, slots := 0, locals := 0 }) (va_Pc [.ref ((ad 7) 0)] (wrK dg ck ka sz (brkU ck ka ad ra b))) (va_Qi (fun r (u : BU) => r = zI (S 0 3) ∧ RO S X Q P z u) (fun u t9 => wrQ dg sz (brkU ck ka ad ra b) (brkU ck ka ad ra u) t9) (va_A (brkU ck ka ad ra b) sz)) 0 0 (va_A (brkU ck ka ad ra b) sz) := by
  obtain ⟨Z, O, U, X', S', T, P', I, V, N, Y, Q'⟩ := b
  obtain ⟨e1, e2, e3, e4, e5, ⟨hln, htx, hkv⟩, hu0, hY⟩ := hR
  have e1 : S = S' := e1
  have e2 : X = X' := e2
  have e3 : Q = Q' := e3
  have e4 : P = P' := e4
  have e5 : z = Z 0 := e5
  subst e1 e2 e3 e4 e5
  obtain ⟨⟨hV, hV2⟩, ⟨hn, hz⟩, hq10, hhist, hz0, hp10, hsn⟩ := id hκ
  have hI := hV.bd
  have hs10 : ∀ i, 0 ≤ S 10 i ∧ S 10 i ≤ 1 := hI.2.2.2.2.2.2.2.2.2.2.2.2.2.1
  refine MetFree.mono (x_noiseLimit l dg ck ka ad ra Z O U X S T P I V N Y Q sz ) (fun _ _ h => h) (fun _ _ _ _ _ h => h) (fun a s o t _ h => ⟨?_, h.2⟩)
  obtain ⟨⟨r, u, h1, h2, h3⟩, h4⟩ := h.1
  exact ⟨⟨r, (Z, O, U, X, S, T, P, I, V, N, Y, Q), h1, ⟨h2, ⟨rfl, rfl, rfl, rfl, rfl, ⟨hln, htx, hkv⟩, hu0, hY⟩⟩, h3⟩, h4⟩

/-- the broker's tenantCount, from the law -/
theorem g_tenantCount (l : Launch) (dg : va_G) (ck : Nat → ClassId) (ka : Nat → Nat) (ad ra : Nat → Nat → Nat) (S : St) (X : Nat → Int) (Q : Nat → St) (P : St) (z : Int) (b : BU) (sz : Nat) {n : Int} (hκ : KI n S X Q P z) (hR : RO S X Q P z b) : Met l yX8_tenantCount (.code yX8_tenantCount cX8_tenantCount 1 (some .int) :: GW) ({ frames := 0, cells := 0, slots := 0, locals := 0 }) (va_Pc [.ref ((ad 7) 0)] (wrK dg ck ka sz (brkU ck ka ad ra b))) (va_Qi (fun r (u : BU) => r = zI (S 0 2) ∧ RO S X Q P z u) (fun u t9 => wrQ dg sz (brkU ck ka ad ra b) (brkU ck ka ad ra u) t9) (va_A (brkU ck ka ad ra b) sz)) 0 0 (va_A (brkU ck ka ad ra b) sz) := by
  obtain ⟨Z, O, U, X', S', T, P', I, V, N, Y, Q'⟩ := b
  obtain ⟨e1, e2, e3, e4, e5, ⟨hln, htx, hkv⟩, hu0, hY⟩ := hR
  have e1 : S = S' := e1
  have e2 : X = X' := e2
  have e3 : Q = Q' := e3
  have e4 : P = P' := e4
  have e5 : z = Z 0 := e5
  subst e1 e2 e3 e4 e5
  obtain ⟨⟨hV, hV2⟩, ⟨hn, hz⟩, hq10, hhist, hz0, hp10, hsn⟩ := id hκ
  have hI := hV.bd
  have hs10 : ∀ i, 0 ≤ S 10 i ∧ S 10 i ≤ 1 := hI.2.2.2.2.2.2.2.2.2.2.2.2.2.1
  refine MetFree.mono (x_tenantCount l dg ck ka ad ra Z O U X S T P I V N Y Q sz ) (fun _ _ h => h) (fun _ _ _ _ _ h => h) (fun a s o t _ h => ⟨?_, h.2⟩)
  obtain ⟨⟨r, u, h1, h2, h3⟩, h4⟩ := h.1
  exact ⟨⟨r, (Z, O, U, X, S, T, P, I, V, N, Y, Q), h1, ⟨h2, ⟨rfl, rfl, rfl, rfl, rfl, ⟨hln, htx, hkv⟩, hu0, hY⟩⟩, h3⟩, h4⟩

/-- the broker's month, from the law -/
theorem g_month (l : Launch) (dg : va_G) (ck : Nat → ClassId) (ka : Nat → Nat) (ad ra : Nat → Nat → Nat) (S : St) (X : Nat → Int) (Q : Nat → St) (P : St) (z : Int) (b : BU) (sz : Nat) {n : Int} (hκ : KI n S X Q P z) (hR : RO S X Q P z b) : Met l yX8_month (.code yX8_month cX8_month 1 (some .int) :: GW) ({ frames := 0, cells := 0, slots := 0, locals := 0 }) (va_Pc [.ref ((ad 7) 0)] (wrK dg ck ka sz (brkU ck ka ad ra b))) (va_Qi (fun r (u : BU) => r = zI (S 0 4) ∧ RO S X Q P z u) (fun u t9 => wrQ dg sz (brkU ck ka ad ra b) (brkU ck ka ad ra u) t9) (va_A (brkU ck ka ad ra b) sz)) 0 0 (va_A (brkU ck ka ad ra b) sz) := by
  obtain ⟨Z, O, U, X', S', T, P', I, V, N, Y, Q'⟩ := b
  obtain ⟨e1, e2, e3, e4, e5, ⟨hln, htx, hkv⟩, hu0, hY⟩ := hR
  have e1 : S = S' := e1
  have e2 : X = X' := e2
  have e3 : Q = Q' := e3
  have e4 : P = P' := e4
  have e5 : z = Z 0 := e5
  subst e1 e2 e3 e4 e5
  obtain ⟨⟨hV, hV2⟩, ⟨hn, hz⟩, hq10, hhist, hz0, hp10, hsn⟩ := id hκ
  have hI := hV.bd
  have hs10 : ∀ i, 0 ≤ S 10 i ∧ S 10 i ≤ 1 := hI.2.2.2.2.2.2.2.2.2.2.2.2.2.1
  refine MetFree.mono (x_month l dg ck ka ad ra Z O U X S T P I V N Y Q sz ) (fun _ _ h => h) (fun _ _ _ _ _ h => h) (fun a s o t _ h => ⟨?_, h.2⟩)
  obtain ⟨⟨r, u, h1, h2, h3⟩, h4⟩ := h.1
  exact ⟨⟨r, (Z, O, U, X, S, T, P, I, V, N, Y, Q), h1, ⟨h2, ⟨rfl, rfl, rfl, rfl, rfl, ⟨hln, htx, hkv⟩, hu0, hY⟩⟩, h3⟩, h4⟩

/-- the broker's brokerCoins, from the law -/
theorem g_brokerCoins (l : Launch) (dg : va_G) (ck : Nat → ClassId) (ka : Nat → Nat) (ad ra : Nat → Nat → Nat) (S : St) (X : Nat → Int) (Q : Nat → St) (P : St) (z : Int) (b : BU) (sz : Nat) {n : Int} (hκ : KI n S X Q P z) (hR : RO S X Q P z b) : Met l yX8_brokerCoins (.code yX8_brokerCoins cX8_brokerCoins 1 (some .int) :: GW) ({ frames := 0, cells := 0, slots := 0, locals := 0 }) (va_Pc [.ref ((ad 7) 0)] (wrK dg ck ka sz (brkU ck ka ad ra b))) (va_Qi (fun r (u : BU) => r = zI (S 0 5) ∧ RO S X Q P z u) (fun u t9 => wrQ dg sz (brkU ck ka ad ra b) (brkU ck ka ad ra u) t9) (va_A (brkU ck ka ad ra b) sz)) 0 0 (va_A (brkU ck ka ad ra b) sz) := by
  obtain ⟨Z, O, U, X', S', T, P', I, V, N, Y, Q'⟩ := b
  obtain ⟨e1, e2, e3, e4, e5, ⟨hln, htx, hkv⟩, hu0, hY⟩ := hR
  have e1 : S = S' := e1
  have e2 : X = X' := e2
  have e3 : Q = Q' := e3
  have e4 : P = P' := e4
  have e5 : z = Z 0 := e5
  subst e1 e2 e3 e4 e5
  obtain ⟨⟨hV, hV2⟩, ⟨hn, hz⟩, hq10, hhist, hz0, hp10, hsn⟩ := id hκ
  have hI := hV.bd
  have hs10 : ∀ i, 0 ≤ S 10 i ∧ S 10 i ≤ 1 := hI.2.2.2.2.2.2.2.2.2.2.2.2.2.1
  refine MetFree.mono (x_brokerCoins l dg ck ka ad ra Z O U X S T P I V N Y Q sz ) (fun _ _ h => h) (fun _ _ _ _ _ h => h) (fun a s o t _ h => ⟨?_, h.2⟩)
  obtain ⟨⟨r, u, h1, h2, h3⟩, h4⟩ := h.1
  exact ⟨⟨r, (Z, O, U, X, S, T, P, I, V, N, Y, Q), h1, ⟨h2, ⟨rfl, rfl, rfl, rfl, rfl, ⟨hln, htx, hkv⟩, hu0, hY⟩⟩, h3⟩, h4⟩

/-- the broker's allCoinsGiven, from the law -/
theorem g_allCoinsGiven (l : Launch) (dg : va_G) (ck : Nat → ClassId) (ka : Nat → Nat) (ad ra : Nat → Nat → Nat) (S : St) (X : Nat → Int) (Q : Nat → St) (P : St) (z : Int) (b : BU) (sz : Nat) {n : Int} (hκ : KI n S X Q P z) (hR : RO S X Q P z b) : Met l yX8_allCoinsGiven (.code yX8_allCoinsGiven cX8_allCoinsGiven 1 (some .int) :: GW) ({ frames := 0, cells := 0, slots := 0, locals := 0 }) (va_Pc [.ref ((ad 7) 0)] (wrK dg ck ka sz (brkU ck ka ad ra b))) (va_Qi (fun r (u : BU) => r = zI (S 0 6) ∧ RO S X Q P z u) (fun u t9 => wrQ dg sz (brkU ck ka ad ra b) (brkU ck ka ad ra u) t9) (va_A (brkU ck ka ad ra b) sz)) 0 0 (va_A (brkU ck ka ad ra b) sz) := by
  obtain ⟨Z, O, U, X', S', T, P', I, V, N, Y, Q'⟩ := b
  obtain ⟨e1, e2, e3, e4, e5, ⟨hln, htx, hkv⟩, hu0, hY⟩ := hR
  have e1 : S = S' := e1
  have e2 : X = X' := e2
  have e3 : Q = Q' := e3
  have e4 : P = P' := e4
  have e5 : z = Z 0 := e5
  subst e1 e2 e3 e4 e5
  obtain ⟨⟨hV, hV2⟩, ⟨hn, hz⟩, hq10, hhist, hz0, hp10, hsn⟩ := id hκ
  have hI := hV.bd
  have hs10 : ∀ i, 0 ≤ S 10 i ∧ S 10 i ≤ 1 := hI.2.2.2.2.2.2.2.2.2.2.2.2.2.1
  refine MetFree.mono (x_allCoinsGiven l dg ck ka ad ra Z O U X S T P I V N Y Q sz ) (fun _ _ h => h) (fun _ _ _ _ _ h => h) (fun a s o t _ h => ⟨?_, h.2⟩)
  obtain ⟨⟨r, u, h1, h2, h3⟩, h4⟩ := h.1
  exact ⟨⟨r, (Z, O, U, X, S, T, P, I, V, N, Y, Q), h1, ⟨h2, ⟨rfl, rfl, rfl, rfl, rfl, ⟨hln, htx, hkv⟩, hu0, hY⟩⟩, h3⟩, h4⟩

/-- the broker's defaultedLeases, from the law -/
theorem g_defaultedLeases (l : Launch) (dg : va_G) (ck : Nat → ClassId) (ka : Nat → Nat) (ad ra : Nat → Nat → Nat) (S : St) (X : Nat → Int) (Q : Nat → St) (P : St) (z : Int) (b : BU) (sz : Nat) {n : Int} (hκ : KI n S X Q P z) (hR : RO S X Q P z b) : Met l yX8_defaultedLeases (.code yX8_defaultedLeases cX8_defaultedLeases 1 (some .int) :: GW) ({ frames := 0, cells := 0, slots := 0, locals := 0 }) (va_Pc [.ref ((ad 7) 0)] (wrK dg ck ka sz (brkU ck ka ad ra b))) (va_Qi (fun r (u : BU) => r = zI (S 0 7) ∧ RO S X Q P z u) (fun u t9 => wrQ dg sz (brkU ck ka ad ra b) (brkU ck ka ad ra u) t9) (va_A (brkU ck ka ad ra b) sz)) 0 0 (va_A (brkU ck ka ad ra b) sz) := by
  obtain ⟨Z, O, U, X', S', T, P', I, V, N, Y, Q'⟩ := b
  obtain ⟨e1, e2, e3, e4, e5, ⟨hln, htx, hkv⟩, hu0, hY⟩ := hR
  have e1 : S = S' := e1
  have e2 : X = X' := e2
  have e3 : Q = Q' := e3
  have e4 : P = P' := e4
  have e5 : z = Z 0 := e5
  subst e1 e2 e3 e4 e5
  obtain ⟨⟨hV, hV2⟩, ⟨hn, hz⟩, hq10, hhist, hz0, hp10, hsn⟩ := id hκ
  have hI := hV.bd
  have hs10 : ∀ i, 0 ≤ S 10 i ∧ S 10 i ≤ 1 := hI.2.2.2.2.2.2.2.2.2.2.2.2.2.1
  refine MetFree.mono (x_defaultedLeases l dg ck ka ad ra Z O U X S T P I V N Y Q sz ) (fun _ _ h => h) (fun _ _ _ _ _ h => h) (fun a s o t _ h => ⟨?_, h.2⟩)
  obtain ⟨⟨r, u, h1, h2, h3⟩, h4⟩ := h.1
  exact ⟨⟨r, (Z, O, U, X, S, T, P, I, V, N, Y, Q), h1, ⟨h2, ⟨rfl, rfl, rfl, rfl, rfl, ⟨hln, htx, hkv⟩, hu0, hY⟩⟩, h3⟩, h4⟩

/-- the broker's terminatedLeases, from the law -/
theorem g_terminatedLeases (l : Launch) (dg : va_G) (ck : Nat → ClassId) (ka : Nat → Nat) (ad ra : Nat → Nat → Nat) (S : St) (X : Nat → Int) (Q : Nat → St) (P : St) (z : Int) (b : BU) (sz : Nat) {n : Int} (hκ : KI n S X Q P z) (hR : RO S X Q P z b) : Met l yX8_terminatedLeases (.code yX8_terminatedLeases cX8_terminatedLeases 1 (some .int) :: GW) ({ frames := 0, cells := 0, slots := 0, locals := 0 }) (va_Pc [.ref ((ad 7) 0)] (wrK dg ck ka sz (brkU ck ka ad ra b))) (va_Qi (fun r (u : BU) => r = zI (S 0 8) ∧ RO S X Q P z u) (fun u t9 => wrQ dg sz (brkU ck ka ad ra b) (brkU ck ka ad ra u) t9) (va_A (brkU ck ka ad ra b) sz)) 0 0 (va_A (brkU ck ka ad ra b) sz) := by
  obtain ⟨Z, O, U, X', S', T, P', I, V, N, Y, Q'⟩ := b
  obtain ⟨e1, e2, e3, e4, e5, ⟨hln, htx, hkv⟩, hu0, hY⟩ := hR
  have e1 : S = S' := e1
  have e2 : X = X' := e2
  have e3 : Q = Q' := e3
  have e4 : P = P' := e4
  have e5 : z = Z 0 := e5
  subst e1 e2 e3 e4 e5
  obtain ⟨⟨hV, hV2⟩, ⟨hn, hz⟩, hq10, hhist, hz0, hp10, hsn⟩ := id hκ
  have hI := hV.bd
  have hs10 : ∀ i, 0 ≤ S 10 i ∧ S 10 i ≤ 1 := hI.2.2.2.2.2.2.2.2.2.2.2.2.2.1
  refine MetFree.mono (x_terminatedLeases l dg ck ka ad ra Z O U X S T P I V N Y Q sz ) (fun _ _ h => h) (fun _ _ _ _ _ h => h) (fun a s o t _ h => ⟨?_, h.2⟩)
  obtain ⟨⟨r, u, h1, h2, h3⟩, h4⟩ := h.1
  exact ⟨⟨r, (Z, O, U, X, S, T, P, I, V, N, Y, Q), h1, ⟨h2, ⟨rfl, rfl, rfl, rfl, rfl, ⟨hln, htx, hkv⟩, hu0, hY⟩⟩, h3⟩, h4⟩

/-- the broker's completedLeases, from the law -/
theorem g_completedLeases (l : Launch) (dg : va_G) (ck : Nat → ClassId) (ka : Nat → Nat) (ad ra : Nat → Nat → Nat) (S : St) (X : Nat → Int) (Q : Nat → St) (P : St) (z : Int) (b : BU) (sz : Nat) {n : Int} (hκ : KI n S X Q P z) (hR : RO S X Q P z b) : Met l yX8_completedLeases (.code yX8_completedLeases cX8_completedLeases 1 (some .int) :: GW) ({ frames := 0, cells := 0, slots := 0, locals := 0 }) (va_Pc [.ref ((ad 7) 0)] (wrK dg ck ka sz (brkU ck ka ad ra b))) (va_Qi (fun r (u : BU) => r = zI (S 0 9) ∧ RO S X Q P z u) (fun u t9 => wrQ dg sz (brkU ck ka ad ra b) (brkU ck ka ad ra u) t9) (va_A (brkU ck ka ad ra b) sz)) 0 0 (va_A (brkU ck ka ad ra b) sz) := by
  obtain ⟨Z, O, U, X', S', T, P', I, V, N, Y, Q'⟩ := b
  obtain ⟨e1, e2, e3, e4, e5, ⟨hln, htx, hkv⟩, hu0, hY⟩ := hR
  have e1 : S = S' := e1
  have e2 : X = X' := e2
  have e3 : Q = Q' := e3
  have e4 : P = P' := e4
  have e5 : z = Z 0 := e5
  subst e1 e2 e3 e4 e5
  obtain ⟨⟨hV, hV2⟩, ⟨hn, hz⟩, hq10, hhist, hz0, hp10, hsn⟩ := id hκ
  have hI := hV.bd
  have hs10 : ∀ i, 0 ≤ S 10 i ∧ S 10 i ≤ 1 := hI.2.2.2.2.2.2.2.2.2.2.2.2.2.1
  refine MetFree.mono (x_completedLeases l dg ck ka ad ra Z O U X S T P I V N Y Q sz ) (fun _ _ h => h) (fun _ _ _ _ _ h => h) (fun a s o t _ h => ⟨?_, h.2⟩)
  obtain ⟨⟨r, u, h1, h2, h3⟩, h4⟩ := h.1
  exact ⟨⟨r, (Z, O, U, X, S, T, P, I, V, N, Y, Q), h1, ⟨h2, ⟨rfl, rfl, rfl, rfl, rfl, ⟨hln, htx, hkv⟩, hu0, hY⟩⟩, h3⟩, h4⟩

/-- the broker's depositTotal, from the law -/
theorem g_depositTotal (l : Launch) (dg : va_G) (ck : Nat → ClassId) (ka : Nat → Nat) (ad ra : Nat → Nat → Nat) (S : St) (X : Nat → Int) (Q : Nat → St) (P : St) (z : Int) (b : BU) (sz : Nat) {n : Int} (hκ : KI n S X Q P z) (hR : RO S X Q P z b) : Met l yX8_depositTotal (.code yX8_depositTotal cX8_depositTotal 1 (some .int) :: GW) ({ frames := 1, cells := 0, slots := 0, locals := 22 }) (va_Pc [.ref ((ad 7) 0)] (wrK dg ck ka sz (brkU ck ka ad ra b))) (va_Qi (fun r (u : BU) => r = zI (deps S) ∧ RO S X Q P z u) (fun u t9 => wrQ dg sz (brkU ck ka ad ra b) (brkU ck ka ad ra u) t9) (va_A (brkU ck ka ad ra b) sz)) 0 0 (va_A (brkU ck ka ad ra b) sz) := by
  obtain ⟨Z, O, U, X', S', T, P', I, V, N, Y, Q'⟩ := b
  obtain ⟨e1, e2, e3, e4, e5, ⟨hln, htx, hkv⟩, hu0, hY⟩ := hR
  have e1 : S = S' := e1
  have e2 : X = X' := e2
  have e3 : Q = Q' := e3
  have e4 : P = P' := e4
  have e5 : z = Z 0 := e5
  subst e1 e2 e3 e4 e5
  obtain ⟨⟨hV, hV2⟩, ⟨hn, hz⟩, hq10, hhist, hz0, hp10, hsn⟩ := id hκ
  have hI := hV.bd
  have hs10 : ∀ i, 0 ≤ S 10 i ∧ S 10 i ≤ 1 := hI.2.2.2.2.2.2.2.2.2.2.2.2.2.1
  refine MetFree.mono (x_depositTotal l dg ck ka ad ra Z O U X S T P I V N Y Q sz hI) (fun _ _ h => h) (fun _ _ _ _ _ h => h) (fun a s o t _ h => ⟨?_, h.2⟩)
  obtain ⟨⟨r, u, h1, h2, h3⟩, h4⟩ := h.1
  exact ⟨⟨r, (Z, O, U, X, S, T, P, I, V, N, Y, Q), h1, ⟨h2, ⟨rfl, rfl, rfl, rfl, rfl, ⟨hln, htx, hkv⟩, hu0, hY⟩⟩, h3⟩, h4⟩

/-- the broker's allCoins, from the law -/
theorem g_allCoins (l : Launch) (dg : va_G) (ck : Nat → ClassId) (ka : Nat → Nat) (ad ra : Nat → Nat → Nat) (S : St) (X : Nat → Int) (Q : Nat → St) (P : St) (z : Int) (b : BU) (sz : Nat) {n : Int} (hκ : KI n S X Q P z) (hR : RO S X Q P z b) : Met l yX8_allCoins (.code yX8_allCoins cX8_allCoins 1 (some .int) :: GW) ({ frames := 2, cells := 0, slots := 0, locals := 44 }) (va_Pc [.ref ((ad 7) 0)] (wrK dg ck ka sz (brkU ck ka ad ra b))) (va_Qi (fun r (u : BU) => r = zI (coinsA S) ∧ RO S X Q P z u) (fun u t9 => wrQ dg sz (brkU ck ka ad ra b) (brkU ck ka ad ra u) t9) (va_A (brkU ck ka ad ra b) sz)) 0 0 (va_A (brkU ck ka ad ra b) sz) := by
  obtain ⟨Z, O, U, X', S', T, P', I, V, N, Y, Q'⟩ := b
  obtain ⟨e1, e2, e3, e4, e5, ⟨hln, htx, hkv⟩, hu0, hY⟩ := hR
  have e1 : S = S' := e1
  have e2 : X = X' := e2
  have e3 : Q = Q' := e3
  have e4 : P = P' := e4
  have e5 : z = Z 0 := e5
  subst e1 e2 e3 e4 e5
  obtain ⟨⟨hV, hV2⟩, ⟨hn, hz⟩, hq10, hhist, hz0, hp10, hsn⟩ := id hκ
  have hI := hV.bd
  have hs10 : ∀ i, 0 ≤ S 10 i ∧ S 10 i ≤ 1 := hI.2.2.2.2.2.2.2.2.2.2.2.2.2.1
  refine MetFree.mono (x_allCoins l dg ck ka ad ra Z O U X S T P I V N Y Q sz hI) (fun _ _ h => h) (fun _ _ _ _ _ h => h) (fun a s o t _ h => ⟨?_, h.2⟩)
  obtain ⟨⟨r, u, h1, h2, h3⟩, h4⟩ := h.1
  exact ⟨⟨r, (Z, O, U, X, S, T, P, I, V, N, Y, Q), h1, ⟨h2, ⟨rfl, rfl, rfl, rfl, rfl, ⟨hln, htx, hkv⟩, hu0, hY⟩⟩, h3⟩, h4⟩

/-- the broker's quietCount, from the law -/
theorem g_quietCount (l : Launch) (dg : va_G) (ck : Nat → ClassId) (ka : Nat → Nat) (ad ra : Nat → Nat → Nat) (S : St) (X : Nat → Int) (Q : Nat → St) (P : St) (z : Int) (b : BU) (sz : Nat) {n : Int} (hκ : KI n S X Q P z) (hR : RO S X Q P z b) : Met l yX8_quietCount (.code yX8_quietCount cX8_quietCount 3 (some .int) :: GW) ({ frames := 3, cells := 0, slots := 0, locals := 68 }) (va_Pc [.ref ((ad 7) 0)] (wrK dg ck ka sz (brkU ck ka ad ra b))) (va_Qi (fun r (u : BU) => r = zI (sumZ (fun o => bI (quietB S o)) (S 0 0).toNat) ∧ RO S X Q P z u) (fun u t9 => wrQ dg sz (brkU ck ka ad ra b) (brkU ck ka ad ra u) t9) (va_A (brkU ck ka ad ra b) sz)) 0 0 (va_A (brkU ck ka ad ra b) sz) := by
  obtain ⟨Z, O, U, X', S', T, P', I, V, N, Y, Q'⟩ := b
  obtain ⟨e1, e2, e3, e4, e5, ⟨hln, htx, hkv⟩, hu0, hY⟩ := hR
  have e1 : S = S' := e1
  have e2 : X = X' := e2
  have e3 : Q = Q' := e3
  have e4 : P = P' := e4
  have e5 : z = Z 0 := e5
  subst e1 e2 e3 e4 e5
  obtain ⟨⟨hV, hV2⟩, ⟨hn, hz⟩, hq10, hhist, hz0, hp10, hsn⟩ := id hκ
  have hI := hV.bd
  have hs10 : ∀ i, 0 ≤ S 10 i ∧ S 10 i ≤ 1 := hI.2.2.2.2.2.2.2.2.2.2.2.2.2.1
  refine MetFree.mono (x_quietCount l dg ck ka ad ra Z O U X S T P I V N Y Q sz hI) (fun _ _ h => h) (fun _ _ _ _ _ h => h) (fun a s o t _ h => ⟨?_, h.2⟩)
  obtain ⟨⟨r, u, h1, h2, h3⟩, h4⟩ := h.1
  exact ⟨⟨r, (Z, O, U, X, S, T, P, I, V, N, Y, Q), h1, ⟨h2, ⟨rfl, rfl, rfl, rfl, rfl, ⟨hln, htx, hkv⟩, hu0, hY⟩⟩, h3⟩, h4⟩

/-- the broker's isConsistent, from the law -/
theorem g_isConsistent (l : Launch) (dg : va_G) (ck : Nat → ClassId) (ka : Nat → Nat) (ad ra : Nat → Nat → Nat) (S : St) (X : Nat → Int) (Q : Nat → St) (P : St) (z : Int) (b : BU) (sz : Nat) {n : Int} (hκ : KI n S X Q P z) (hR : RO S X Q P z b) : Met l yX8_isConsistent (.code yX8_isConsistent cX8_isConsistent 1 (some .boolean) :: GW) ({ frames := 7, cells := 0, slots := 0, locals := 158 }) (va_Pc [.ref ((ad 7) 0)] (wrK dg ck ka sz (brkU ck ka ad ra b))) (va_Qi (fun r (u : BU) => r = zI (bI True) ∧ RO S X Q P z u) (fun u t9 => wrQ dg sz (brkU ck ka ad ra b) (brkU ck ka ad ra u) t9) (va_A (brkU ck ka ad ra b) sz)) 0 0 (va_A (brkU ck ka ad ra b) sz) := by
  obtain ⟨Z, O, U, X', S', T, P', I, V, N, Y, Q'⟩ := b
  obtain ⟨e1, e2, e3, e4, e5, ⟨hln, htx, hkv⟩, hu0, hY⟩ := hR
  have e1 : S = S' := e1
  have e2 : X = X' := e2
  have e3 : Q = Q' := e3
  have e4 : P = P' := e4
  have e5 : z = Z 0 := e5
  subst e1 e2 e3 e4 e5
  obtain ⟨⟨hV, hV2⟩, ⟨hn, hz⟩, hq10, hhist, hz0, hp10, hsn⟩ := id hκ
  have hI := hV.bd
  have hs10 : ∀ i, 0 ≤ S 10 i ∧ S 10 i ≤ 1 := hI.2.2.2.2.2.2.2.2.2.2.2.2.2.1
  refine MetFree.mono (x_isConsistent l dg ck ka ad ra Z O U X S T P I V N Y Q sz hV) (fun _ _ h => h) (fun _ _ _ _ _ h => h) (fun a s o t _ h => ⟨?_, h.2⟩)
  obtain ⟨⟨r, u, h1, h2, h3⟩, h4⟩ := h.1
  exact ⟨⟨r, (Z, (outc (outc (outc O (elZ S 1).1 (elZ S 1).2.1) (elZ S 6).1 (elZ S 6).2.1) (elZ S 12).1 (elZ S 12).2.1), U, X, S, (elZ S 12).2.2, P, I, (nsF S), (slZ S N (S 0 1).toNat), Y, Q), h1, ⟨h2, ⟨rfl, rfl, rfl, rfl, rfl, ⟨hln, htx, hkv⟩, hu0, hY⟩⟩, h3⟩, h4⟩

/-- the broker's saveSnapshot, from the law -/
theorem g_saveSnapshot (l : Launch) (dg : va_G) (ck : Nat → ClassId) (ka : Nat → Nat) (ad ra : Nat → Nat → Nat) (S : St) (X : Nat → Int) (Q : Nat → St) (P : St) (z : Int) (b : BU) (sz : Nat) {n : Int} (hκ : KI n S X Q P z) (hR : RO S X Q P z b) : Met l yX8_saveSnapshot (.code yX8_saveSnapshot cX8_saveSnapshot 1 (some .int) :: GW) ({ frames := 3, cells := 0, slots := 0, locals := 68 }) (va_Pc [.ref ((ad 7) 0)] (wrK dg ck ka sz (brkU ck ka ad ra b))) (va_Qi (fun r (u : BU) => r = zI (S 0 0) ∧ RO S X Q S 1 u) (fun u t9 => wrQ dg sz (brkU ck ka ad ra b) (brkU ck ka ad ra u) t9) (va_A (brkU ck ka ad ra b) sz)) 0 0 (va_A (brkU ck ka ad ra b) sz) := by
  obtain ⟨Z, O, U, X', S', T, P', I, V, N, Y, Q'⟩ := b
  obtain ⟨e1, e2, e3, e4, e5, ⟨hln, htx, hkv⟩, hu0, hY⟩ := hR
  have e1 : S = S' := e1
  have e2 : X = X' := e2
  have e3 : Q = Q' := e3
  have e4 : P = P' := e4
  have e5 : z = Z 0 := e5
  subst e1 e2 e3 e4 e5
  obtain ⟨⟨hV, hV2⟩, ⟨hn, hz⟩, hq10, hhist, hz0, hp10, hsn⟩ := id hκ
  have hI := hV.bd
  have hs10 : ∀ i, 0 ≤ S 10 i ∧ S 10 i ≤ 1 := hI.2.2.2.2.2.2.2.2.2.2.2.2.2.1
  refine MetFree.mono (x_saveSnapshot l dg ck ka ad ra Z O U X S T P I V N Y Q sz hs10) (fun _ _ h => h) (fun _ _ _ _ _ h => h) (fun a s o t _ h => ⟨?_, h.2⟩)
  obtain ⟨⟨r, u, h1, h2, h3⟩, h4⟩ := h.1
  exact ⟨⟨r, ((upO Z 0 1), O, U, X, S, T, S, I, V, N, Y, Q), h1, ⟨h2, ⟨rfl, rfl, rfl, rfl, rfl, ⟨hln, htx, hkv⟩, hu0, hY⟩⟩, h3⟩, h4⟩
