/-! the class: noise by spreading -/
def rowC (ck : Nat → ClassId) (n a : Nat) (g : Int → Int) : va_W := [(a, .inl (ck 0, n, .inl (zz g)))]
def nobjC (a : Nat → Nat) : va_W := [(a 0, .inr (7, [.ref (a 1), .ref (a 2)]))]
def kZ (v : Int) : Int → Int := fun _ => v
def absZ (x : Int) : Int := if 0 ≤ x then x else -x
/-- the way from the cell x to row r, column c -/
def dzZ (x r c : Int) : Int := absZ (x / 6 - r) + absZ (x % 6 - c)
def hrZ (N : Int → Int) (r c v : Int) : Int → Int := if isCell r c ∧ N ((r * 6) + c) = 0 then upZ N ((r * 6) + c) v else N
def poZ (N : Int → Int) (r c v : Int) : Int → Int := hrZ (hrZ (hrZ (hrZ N (r - 1) c v) (r + 1) c v) r (c - 1) v) r (c + 1) v
abbrev r9Z (N : Int → Int) : Prop := ∀ z, 0 ≤ z → z < 36 → 0 ≤ N z ∧ N z ≤ 9
theorem upZ_r {N : Int → Int} {i v : Int} (hN : r9Z N) (hv : 0 ≤ v ∧ v ≤ 9) : r9Z (upZ N i v) := fun z h0 h9 => by
  unfold upZ
  split
  · exact hv
  · exact hN z h0 h9
theorem hrZ_r {N : Int → Int} {r c v : Int} (hN : r9Z N) (hv : 0 ≤ v ∧ v ≤ 9) : r9Z (hrZ N r c v) := by
  unfold hrZ
  split
  · exact upZ_r hN hv
  · exact hN
theorem poZ_r {N : Int → Int} {r c v : Int} (hN : r9Z N) (hv : 0 ≤ v ∧ v ≤ 9) : r9Z (poZ N r c v) := hrZ_r (hrZ_r (hrZ_r (hrZ_r hN hv) hv) hv) hv
theorem dz_0 (x r c : Int) : 0 ≤ dzZ x r c := by unfold dzZ absZ; split <;> split <;> omega
abbrev nbZ (a b r c : Int) : Prop := (r = a - 1 ∧ c = b) ∨ (r = a + 1 ∧ c = b) ∨ (r = a ∧ c = b - 1) ∨ (r = a ∧ c = b + 1)
theorem dz_n {x a b r c : Int} (h : nbZ a b r c) : dzZ x r c ≤ dzZ x a b + 1 := by
  unfold dzZ absZ
  rcases h with ⟨rfl, rfl⟩ | ⟨rfl, rfl⟩ | ⟨rfl, rfl⟩ | ⟨rfl, rfl⟩ <;> (repeat' split) <;> omega
theorem dz_z {x r c : Int} (h : dzZ x r c = 0) : r = x / 6 ∧ c = x % 6 := by
  unfold dzZ absZ at h
  (repeat' split at h) <;> omega
theorem dz_p {x r c : Int} (hx : 0 ≤ x ∧ x < 36) (hc : isCell r c) (h : 0 < dzZ x r c) : ∃ a b, isCell a b ∧ nbZ a b r c ∧ dzZ x a b = dzZ x r c - 1 := by
  rcases (show r < x / 6 ∨ x / 6 < r ∨ (r = x / 6 ∧ c < x % 6) ∨ (r = x / 6 ∧ x % 6 < c) ∨ (r = x / 6 ∧ c = x % 6) by omega) with q | q | q | q | q
  · refine ⟨r + 1, c, by omega, by omega, ?_⟩
    unfold dzZ absZ
    (repeat' split) <;> omega
  · refine ⟨r - 1, c, by omega, by omega, ?_⟩
    unfold dzZ absZ
    (repeat' split) <;> omega
  · refine ⟨r, c + 1, by omega, by omega, ?_⟩
    unfold dzZ absZ
    (repeat' split) <;> omega
  · refine ⟨r, c - 1, by omega, by omega, ?_⟩
    unfold dzZ absZ
    (repeat' split) <;> omega
  · exfalso
    rw [q.1, q.2] at h
    unfold dzZ absZ at h
    (repeat' split at h) <;> omega
/-- all fronts down to f are through -/
def soO (x y f : Int) (N : Int → Int) : Prop := ∀ r c, isCell r c → (f ≤ y - 2 * dzZ x r c → N ((r * 6) + c) = y - 2 * dzZ x r c) ∧ (y - 2 * dzZ x r c < f → N ((r * 6) + c) = 0)
/-- the front f is under way -/
def soB (x y f : Int) (N : Int → Int) : Prop := ∀ r c, isCell r c → (f ≤ y - 2 * dzZ x r c → N ((r * 6) + c) = y - 2 * dzZ x r c) ∧ (y - 2 * dzZ x r c = f - 2 → N ((r * 6) + c) = 0 ∨ N ((r * 6) + c) = f - 2) ∧ (y - 2 * dzZ x r c < f - 2 → N ((r * 6) + c) = 0)
def soJ (x y f i : Int) (N : Int → Int) : Prop := soB x y f N ∧ ∀ a b, isCell a b → (a * 6) + b < i → y - 2 * dzZ x a b = f → ∀ r c, isCell r c → nbZ a b r c → y - 2 * dzZ x r c = f - 2 → N ((r * 6) + c) = f - 2
theorem hr_J {x y f r c : Int} {N : Int → Int} (hf : 2 < f) (hp : (y - f) % 2 = 0) (hJ : soB x y f N) (hn : f - 2 ≤ y - 2 * dzZ x r c) : soB x y f (hrZ N r c (f - 2)) ∧ (∀ z, N z = f - 2 → hrZ N r c (f - 2) z = f - 2) ∧ (isCell r c → y - 2 * dzZ x r c = f - 2 → hrZ N r c (f - 2) ((r * 6) + c) = f - 2) := by
  unfold hrZ
  split
  · rename_i h
    have hb := hJ r c h.1
    have h1 : ¬ f ≤ y - 2 * dzZ x r c := fun q => by
      have := hb.1 q
      omega
    refine ⟨fun r' c' h' => ?_, fun z hz => ?_, fun _ _ => ?_⟩
    · unfold upZ
      by_cases e : (r' * 6) + c' = (r * 6) + c
      · obtain rfl : r' = r := by omega
        obtain rfl : c' = c := by omega
        rw [if_pos e]
        exact ⟨fun q => by omega, fun _ => Or.inr rfl, fun q => by omega⟩
      · rw [if_neg e]
        exact hJ r' c' h'
    · unfold upZ
      split
      · rfl
      · exact hz
    · unfold upZ
      rw [if_pos rfl]
  · rename_i h
    refine ⟨hJ, fun z hz => hz, fun hc hd => ?_⟩
    rcases (hJ r c hc).2.1 hd with q | q
    · exact absurd ⟨hc, q⟩ h
    · exact q
theorem po_J {x y f a b : Int} {N : Int → Int} (hf : 2 < f) (hp : (y - f) % 2 = 0) (hJ : soB x y f N) (hd : y - 2 * dzZ x a b = f) : soB x y f (poZ N a b (f - 2)) ∧ (∀ z, N z = f - 2 → poZ N a b (f - 2) z = f - 2) ∧ (∀ r c, isCell r c → nbZ a b r c → y - 2 * dzZ x r c = f - 2 → poZ N a b (f - 2) ((r * 6) + c) = f - 2) := by
  have n1 := dz_n (x := x) (a := a) (b := b) (r := a - 1) (c := b) (by omega)
  have n2 := dz_n (x := x) (a := a) (b := b) (r := a + 1) (c := b) (by omega)
  have n3 := dz_n (x := x) (a := a) (b := b) (r := a) (c := b - 1) (by omega)
  have n4 := dz_n (x := x) (a := a) (b := b) (r := a) (c := b + 1) (by omega)
  obtain ⟨j1, k1, l1⟩ := hr_J (r := a - 1) (c := b) hf hp hJ (by omega)
  obtain ⟨j2, k2, l2⟩ := hr_J (r := a + 1) (c := b) hf hp j1 (by omega)
  obtain ⟨j3, k3, l3⟩ := hr_J (r := a) (c := b - 1) hf hp j2 (by omega)
  obtain ⟨j4, k4, l4⟩ := hr_J (r := a) (c := b + 1) hf hp j3 (by omega)
  refine ⟨j4, fun z hz => k4 z (k3 z (k2 z (k1 z hz))), fun r c hc hn hd' => ?_⟩
  rcases hn with ⟨rfl, rfl⟩ | ⟨rfl, rfl⟩ | ⟨rfl, rfl⟩ | ⟨rfl, rfl⟩
  · exact k4 _ (k3 _ (k2 _ (l1 hc hd')))
  · exact k4 _ (k3 _ (l2 hc hd'))
  · exact k4 _ (l3 hc hd')
  · exact l4 hc hd'
theorem so_0 {x y f : Int} {N : Int → Int} (h : soO x y f N) : soJ x y f 0 N :=
  ⟨fun r c hc => ⟨(h r c hc).1, fun q => Or.inl ((h r c hc).2 (by omega)), fun q => (h r c hc).2 (by omega)⟩, fun a b hc hi => by omega⟩
theorem so_v {x y f i : Int} {N : Int → Int} (hf : 2 < f) (hp : (y - f) % 2 = 0) (hi : 0 ≤ i ∧ i < 36) (h : soB x y f N) : N i = f ↔ y - 2 * dzZ x (i / 6) (i % 6) = f := by
  have hc : isCell (i / 6) (i % 6) := by omega
  have hb := h _ _ hc
  rw [show (i / 6) * 6 + i % 6 = i by omega] at hb
  constructor
  · intro q
    by_cases c1 : f ≤ y - 2 * dzZ x (i / 6) (i % 6)
    · have := hb.1 c1
      omega
    · by_cases c2 : y - 2 * dzZ x (i / 6) (i % 6) = f - 2
      · rcases hb.2.1 c2 with q2 | q2 <;> omega
      · have := hb.2.2 (by omega)
        omega
  · intro q
    have := hb.1 (by omega)
    omega
theorem so_h {x y f i : Int} {N : Int → Int} (hf : 2 < f) (hp : (y - f) % 2 = 0) (hi : 0 ≤ i ∧ i < 36) (h : soJ x y f i N) (hN : N i = f) : soJ x y f (i + 1) (poZ N (i / 6) (i % 6) (f - 2)) := by
  obtain ⟨j, k, l⟩ := po_J hf hp h.1 ((so_v hf hp hi h.1).mp hN)
  refine ⟨j, fun a b hc hlt hd r c hc' hn hd' => ?_⟩
  by_cases e : (a * 6) + b < i
  · exact k _ (h.2 a b hc e hd r c hc' hn hd')
  · obtain rfl : a = i / 6 := by omega
    obtain rfl : b = i % 6 := by omega
    exact l r c hc' hn hd'
theorem so_m {x y f i : Int} {N : Int → Int} (hf : 2 < f) (hp : (y - f) % 2 = 0) (hi : 0 ≤ i ∧ i < 36) (h : soJ x y f i N) (hN : ¬ N i = f) : soJ x y f (i + 1) N := by
  refine ⟨h.1, fun a b hc hlt hd r c hc' hn hd' => ?_⟩
  by_cases e : (a * 6) + b < i
  · exact h.2 a b hc e hd r c hc' hn hd'
  · obtain rfl : a = i / 6 := by omega
    obtain rfl : b = i % 6 := by omega
    exact absurd ((so_v hf hp hi h.1).mpr hd) hN
theorem so_e {x y f i : Int} {N : Int → Int} (hf : 2 < f) (hp : (y - f) % 2 = 0) (hy : f ≤ y) (hx : 0 ≤ x ∧ x < 36) (hi : 36 ≤ i) (h : soJ x y f i N) : soO x y (f - 2) N := by
  intro r c hc
  have hb := h.1 r c hc
  refine ⟨fun q => ?_, fun q => hb.2.2 q⟩
  by_cases e : f ≤ y - 2 * dzZ x r c
  · exact hb.1 e
  · have e2 : y - 2 * dzZ x r c = f - 2 := by omega
    obtain ⟨a, b, h1, h2, h3⟩ := dz_p hx hc (by omega)
    rw [e2]
    exact h.2 a b h1 (by omega) (by omega) r c hc h2 e2
theorem so_i {x y : Int} (hx : 0 ≤ x ∧ x < 36) : soO x y y (upZ (kZ 0) x y) := by
  intro r c hc
  have h0 := dz_0 x r c
  unfold upZ kZ
  by_cases e : (r * 6) + c = x
  · rw [if_pos e]
    have hd : dzZ x r c = 0 := by
      unfold dzZ absZ
      rw [show x / 6 - r = 0 by omega, show x % 6 - c = 0 by omega]
      rfl
    omega
  · rw [if_neg e]
    refine ⟨fun q => ?_, fun _ => rfl⟩
    have := dz_z (x := x) (r := r) (c := c) (by omega)
    omega
/-- the sound of a fountain at x with loudness y -/
def sdZ (x y r c : Int) : Int := if 0 < y - 2 * dzZ x r c then y - 2 * dzZ x r c else 0
def sdF (x y : Int) : Int → Int := fun z => sdZ x y (z / 6) (z % 6)
theorem so_f {x y f : Int} {N : Int → Int} (hf : 0 ≤ f ∧ f ≤ 2) (hp : (y - f) % 2 = 0) (h : soO x y f N) (j : Nat) (hj : j < 36) : zz N j = zz (sdF x y) j := by
  unfold zz sdF sdZ
  have hb := h ((j : Int) / 6) ((j : Int) % 6) (by omega)
  rw [show ((j : Int) / 6) * 6 + (j : Int) % 6 = j by omega] at hb
  split
  · rw [hb.1 (by omega)]
  · by_cases e : y - 2 * dzZ x ((j : Int) / 6) ((j : Int) % 6) < f
    · rw [hb.2 e]
    · rw [hb.1 (by omega)]
      exact congrArg zI (by omega)
theorem so_r {x y f : Int} {N : Int → Int} (hf : 2 < f) (hp : (y - f) % 2 = 0) (hy : y ≤ 9) (h : soB x y f N) : f ≤ y → r9Z N := fun hfy z h0 h9 => by
  have hb := h (z / 6) (z % 6) (by omega)
  have hd := dz_0 x (z / 6) (z % 6)
  rw [show (z / 6) * 6 + z % 6 = z by omega] at hb
  by_cases c1 : f ≤ y - 2 * dzZ x (z / 6) (z % 6)
  · rw [hb.1 c1]; omega
  · by_cases c2 : y - 2 * dzZ x (z / 6) (z % 6) = f - 2
    · rcases hb.2.1 c2 with q2 | q2 <;> rw [q2] <;> omega
    · rw [hb.2.2 (by omega)]; omega
def adZ (T N : Int → Int) : Int → Int := fun z => T z + N z
theorem mix_k (f g : Int → Int) (k : Int) : mixZ k f g k = g k := if_neg (Int.lt_irrefl k)
theorem ad_p {T N : Int → Int} {i : Int} (hi : 0 ≤ i) (j : Nat) (_ : j < 36) : upd (zz (mixZ i (adZ T N) T)) i.toNat (zI ((mixZ i (adZ T N) T i) + (N i))) j = zz (mixZ (i + 1) (adZ T N) T) j := by
  rw [mix_k]
  exact congrFun (mix_s (f := adZ T N) hi) j
/-- the first n fountains' noise, and the row sound behind them -/
def nzF (S : St) (n : Nat) : Int → Int := fun z => nzN S (z / 6) (z % 6) n
def nsF (S : St) : Int → Int := fun z => noise S (z / 6) (z % 6)
def slZ (S : St) (N : Int → Int) : Nat → Int → Int
  | 0 => N
  | n + 1 => if S 10 n = 1 then sdF ((S 7 n * 6) + S 8 n) (S 9 n) else slZ S N n
theorem slZ_s {S : St} {N : Int → Int} {i : Int} (h : 0 ≤ i) : slZ S N (i + 1).toNat = if S 10 i = 1 then sdF ((S 7 i * 6) + S 8 i) (S 9 i) else slZ S N i.toNat := by
  rw [show (i + 1).toNat = i.toNat + 1 by omega]
  show (if S 10 (i.toNat : Int) = 1 then _ else _) = _
  rw [Int.toNat_of_nonneg h]
theorem nzF_s {S : St} {i : Int} (h : 0 ≤ i) (h8 : 0 ≤ S 8 i ∧ S 8 i ≤ 5) (h1 : S 10 i = 1) : adZ (nzF S i.toNat) (sdF ((S 7 i * 6) + S 8 i) (S 9 i)) = nzF S (i + 1).toNat := by
  funext z
  unfold adZ nzF sdF sdZ dzZ absZ
  rw [nzN_s h, show (S 7 i * 6 + S 8 i) / 6 = S 7 i by omega, show (S 7 i * 6 + S 8 i) % 6 = S 8 i by omega]
  unfold nzT
  generalize S 9 i - 2 * ((if 0 ≤ S 7 i - z / 6 then S 7 i - z / 6 else -(S 7 i - z / 6)) + if 0 ≤ S 8 i - z % 6 then S 8 i - z % 6 else -(S 8 i - z % 6)) = v
  by_cases c : 0 < v
  · rw [if_pos c, if_pos (And.intro h1 c)]
  · rw [if_neg c, if_neg (fun q => c q.2)]
theorem nzF_n {S : St} {i : Int} (h : 0 ≤ i) (h1 : ¬ S 10 i = 1) : nzF S i.toNat = nzF S (i + 1).toNat := by
  funext z
  unfold nzF
  rw [nzN_s h]
  unfold nzT
  rw [if_neg (fun q => h1 q.1), Int.add_zero]

set_option maxHeartbeats 4000000 in
set_option maxRecDepth 100000 in
/-- java/util/Arrays.fill -/
theorem j_fill36 (l : Launch) (dg : va_G) (ck : Nat → ClassId) (o : Nat) (R : Int → Int) (w : Int) (sz : Nat)  : Met l yJ7_fill_53178 (.code yJ7_fill_53178 cJ7_fill_53178 4 none :: GW) ({ frames := 0, cells := 0, slots := 0, locals := 0 }) (va_Pc [.ref o, .int (zI w)] (wrP dg ck sz (rowC ck 36 o R))) (va_Qv (fun _ : Unit => True) (fun _ t9 => wrQ dg sz (rowC ck 36 o R) (rowC ck 36 o (kZ w)) t9) (va_A (rowC ck 36 o R) sz)) 0 0 (va_A (rowC ck 36 o R) sz) := by
  refine Met.ofW (cc := cJ7_fill_53178) (maxL := 4) (ret := none) (by decide) rfl ?_
  intro p e s m args below meth c s₁ B hml hv
  obtain ⟨rfl, hsz, hP, hK, hD0⟩ := hv
  have hx := B.exec
  have hb := B.bytes
  have hr := B.returns
  have hts := atoms_spec (ws := .code yJ7_fill_53178 cJ7_fill_53178 4 none :: GW) B.pre
  have htg : ∀ w ∈ GW, w.before _ s = true := fun w h => hts w (List.mem_cons_of_mem _ h)
  have hown : s.vm.findClass RJ7 = some m.cls := findClass_of_methodNamed B.named
  have hlocks := B.notSynchronized
  subst hsz
  have hD := hD0.self (sz := s.heap.size)
  generalize hAe : va_A (rowC ck 36 o R) s.heap.size = A at hD ⊢
  have hA : ∀ q : Nat, s.heap.size ≤ q → A q := fun q h => by rw [← hAe]; exact Or.inr h
  have hS : va_S A s.heap s.heap [] := va_S.rf
  have hP : va_P dg vwCl (rowC ck 36 o R) s.heap := hP
  have hl := lv_entry ([.ref o, .int (zI w)]) (n := 4) (Nat.le_of_ble_eq_true rfl)
  rw [lg_entry_eq]
  generalize (lg_sl ([.ref o, .int (zI w)]) ++ List.replicate (4 - (lg_sl ([.ref o, .int (zI w)])).length) Slot.unset).toArray = ls at hl ⊢
  have hl : lv_has ls 4 [(0, .ref o), (1, .int (zI w))] := hl
  refine x_iconst hx hb dJ7_fill_53178_0 ?_
  refine lv_istore_n (lv' := [(2, .int (zI 0)), (0, .ref o), (1, .int (zI w))]) hx hb dJ7_fill_53178_1 rfl hl (by decide) rfl (fun ls hl => ?_)
  refine lv_aload_n hx hb dJ7_fill_53178_2 rfl (lv_at hl 1 rfl) ?_
  refine x_alen hx hb hK hP 0 0 rfl rfl dJ7_fill_53178_3 ?_
  refine lv_istore_n (lv' := [(3, .int (zI 36)), (2, .int (zI 0)), (0, .ref o), (1, .int (zI w))]) hx hb dJ7_fill_53178_4 rfl hl (by decide) rfl (fun ls hl => ?_)
  have hP : va_P dg vwCl (rowC ck 36 o (mixZ 0 (kZ w) R)) _ := va_P_ch hP 0 rfl (fun j _ => mix_0 _ _ j) rfl
  have hD : va_D A (rowC ck 36 o (mixZ 0 (kZ w) R)) := va_D_ch hD 0 rfl rfl
  refine x_loopW (ι := Int) (fun v => 0 ≤ v ∧ v ≤ 36) (fun v => (36 - v).toNat) (fun v => [(0, .ref o), (1, .int (zI w)), (2, .int (zI v)), (3, .int (zI 36))]) (fun v => rowC ck 36 o (mixZ v (kZ w) R)) (0) (show 0 ≤ (0 : Int) ∧ (0 : Int) ≤ 36 from (by omega)) (lv_sub hl [2, 3, 1, 0] rfl) hP hD hS ?_
  intro v hv ih_5 ls H locs hl hP hD hS
  obtain ⟨k, rfl⟩ : ∃ z : Int, z = v := ⟨_, rfl⟩
  have hl : lv_has ls 4 [(0, .ref o), (1, .int (zI w)), (2, .int (zI k)), (3, .int (zI 36))] := hl
  have hv : 0 ≤ k ∧ k ≤ 36 := hv
  have hP : va_P dg vwCl (rowC ck 36 o (mixZ k (kZ w) R)) H := hP
  have hD : va_D A (rowC ck 36 o (mixZ k (kZ w) R)) := hD
  obtain ⟨hk0, hk9⟩ := hv
  refine lv_iload_n hx hb dJ7_fill_53178_5 rfl (lv_at hl 2 rfl) ?_
  refine lv_iload_n hx hb dJ7_fill_53178_6 rfl (lv_at hl 3 rfl) ?_
  refine x_icmp_ge (tgt := 20) hx hb dJ7_fill_53178_7 (by decide) (by omega) (by omega) (fun c7 => ?_) (fun c7 => ?_)
  · have hP : va_P dg vwCl (rowC ck 36 o (kZ w)) _ := va_P_ch hP 0 rfl (mix_e (by omega)) rfl
    have hD : va_D A (rowC ck 36 o (kZ w)) := va_D_ch hD 0 rfl rfl
    have hEq : rowC ck 36 o (kZ w) = rowC ck 36 o (kZ w) := rfl
    exact W.vret hx hb hr (fun t9 ht9 hW9 => ⟨⟨(), rfl, trivial, by rw [ht9, hEq]; exact hP, by rw [hEq, hAe]; exact hD⟩, hS.F ht9⟩) hS.2.2 dJ7_fill_53178_20
  · refine lv_aload_n hx hb dJ7_fill_53178_10 rfl (lv_at hl 0 rfl) ?_
    refine lv_iload_n hx hb dJ7_fill_53178_11 rfl (lv_at hl 2 rfl) ?_
    refine lv_iload_n hx hb dJ7_fill_53178_12 rfl (lv_at hl 1 rfl) ?_
    refine x_iastC (ws' := rowC ck 36 o (mixZ (k + 1) (kZ w) R)) hx hb hK hP hD hS 0 0 rfl rfl (by decide) (by omega) (fun j _ => congrFun (mix_s (f := kZ w) (by omega)) j) rfl dJ7_fill_53178_13 (fun H locs hP hD hS => ?_)
    refine lv_iinc (v := zI (k + 1)) (lv' := [(2, .int (zI (k + 1))), (0, .ref o), (1, .int (zI w)), (3, .int (zI 36))]) hx hb dJ7_fill_53178_14 hl (k := 2) rfl (zI_add _ _) (by decide) rfl (fun ls hl => ?_)
    refine lv_goto (tgt := 5) hx hb dJ7_fill_53178_17 (by decide) ?_
    exact ih_5 ((k + 1)) (show 0 ≤ (k + 1) ∧ (k + 1) ≤ 36 from (by omega)) (show (36 - (k + 1)).toNat < (36 - k).toNat from by omega) ls H locs (lv_sub hl [1, 2, 0, 3] rfl) hP hD hS

set_option maxHeartbeats 4000000 in
set_option maxRecDepth 100000 in
/-- java/util/Arrays.fill -/
theorem j_fill10 (l : Launch) (dg : va_G) (ck : Nat → ClassId) (o : Nat) (R : Int → Int) (w : Int) (sz : Nat)  : Met l yJ7_fill_53178 (.code yJ7_fill_53178 cJ7_fill_53178 4 none :: GW) ({ frames := 0, cells := 0, slots := 0, locals := 0 }) (va_Pc [.ref o, .int (zI w)] (wrP dg ck sz (rowC ck 10 o R))) (va_Qv (fun _ : Unit => True) (fun _ t9 => wrQ dg sz (rowC ck 10 o R) (rowC ck 10 o (kZ w)) t9) (va_A (rowC ck 10 o R) sz)) 0 0 (va_A (rowC ck 10 o R) sz) := by
  refine Met.ofW (cc := cJ7_fill_53178) (maxL := 4) (ret := none) (by decide) rfl ?_
  intro p e s m args below meth c s₁ B hml hv
  obtain ⟨rfl, hsz, hP, hK, hD0⟩ := hv
  have hx := B.exec
  have hb := B.bytes
  have hr := B.returns
  have hts := atoms_spec (ws := .code yJ7_fill_53178 cJ7_fill_53178 4 none :: GW) B.pre
  have htg : ∀ w ∈ GW, w.before _ s = true := fun w h => hts w (List.mem_cons_of_mem _ h)
  have hown : s.vm.findClass RJ7 = some m.cls := findClass_of_methodNamed B.named
  have hlocks := B.notSynchronized
  subst hsz
  have hD := hD0.self (sz := s.heap.size)
  generalize hAe : va_A (rowC ck 10 o R) s.heap.size = A at hD ⊢
  have hA : ∀ q : Nat, s.heap.size ≤ q → A q := fun q h => by rw [← hAe]; exact Or.inr h
  have hS : va_S A s.heap s.heap [] := va_S.rf
  have hP : va_P dg vwCl (rowC ck 10 o R) s.heap := hP
  have hl := lv_entry ([.ref o, .int (zI w)]) (n := 4) (Nat.le_of_ble_eq_true rfl)
  rw [lg_entry_eq]
  generalize (lg_sl ([.ref o, .int (zI w)]) ++ List.replicate (4 - (lg_sl ([.ref o, .int (zI w)])).length) Slot.unset).toArray = ls at hl ⊢
  have hl : lv_has ls 4 [(0, .ref o), (1, .int (zI w))] := hl
  refine x_iconst hx hb dJ7_fill_53178_0 ?_
  refine lv_istore_n (lv' := [(2, .int (zI 0)), (0, .ref o), (1, .int (zI w))]) hx hb dJ7_fill_53178_1 rfl hl (by decide) rfl (fun ls hl => ?_)
  refine lv_aload_n hx hb dJ7_fill_53178_2 rfl (lv_at hl 1 rfl) ?_
  refine x_alen hx hb hK hP 0 0 rfl rfl dJ7_fill_53178_3 ?_
  refine lv_istore_n (lv' := [(3, .int (zI 10)), (2, .int (zI 0)), (0, .ref o), (1, .int (zI w))]) hx hb dJ7_fill_53178_4 rfl hl (by decide) rfl (fun ls hl => ?_)
  have hP : va_P dg vwCl (rowC ck 10 o (mixZ 0 (kZ w) R)) _ := va_P_ch hP 0 rfl (fun j _ => mix_0 _ _ j) rfl
  have hD : va_D A (rowC ck 10 o (mixZ 0 (kZ w) R)) := va_D_ch hD 0 rfl rfl
  refine x_loopW (ι := Int) (fun v => 0 ≤ v ∧ v ≤ 10) (fun v => (10 - v).toNat) (fun v => [(0, .ref o), (1, .int (zI w)), (2, .int (zI v)), (3, .int (zI 10))]) (fun v => rowC ck 10 o (mixZ v (kZ w) R)) (0) (show 0 ≤ (0 : Int) ∧ (0 : Int) ≤ 10 from (by omega)) (lv_sub hl [2, 3, 1, 0] rfl) hP hD hS ?_
  intro v hv ih_5 ls H locs hl hP hD hS
  obtain ⟨k, rfl⟩ : ∃ z : Int, z = v := ⟨_, rfl⟩
  have hl : lv_has ls 4 [(0, .ref o), (1, .int (zI w)), (2, .int (zI k)), (3, .int (zI 10))] := hl
  have hv : 0 ≤ k ∧ k ≤ 10 := hv
  have hP : va_P dg vwCl (rowC ck 10 o (mixZ k (kZ w) R)) H := hP
  have hD : va_D A (rowC ck 10 o (mixZ k (kZ w) R)) := hD
  obtain ⟨hk0, hk9⟩ := hv
  refine lv_iload_n hx hb dJ7_fill_53178_5 rfl (lv_at hl 2 rfl) ?_
  refine lv_iload_n hx hb dJ7_fill_53178_6 rfl (lv_at hl 3 rfl) ?_
  refine x_icmp_ge (tgt := 20) hx hb dJ7_fill_53178_7 (by decide) (by omega) (by omega) (fun c7 => ?_) (fun c7 => ?_)
  · have hP : va_P dg vwCl (rowC ck 10 o (kZ w)) _ := va_P_ch hP 0 rfl (mix_e (by omega)) rfl
    have hD : va_D A (rowC ck 10 o (kZ w)) := va_D_ch hD 0 rfl rfl
    have hEq : rowC ck 10 o (kZ w) = rowC ck 10 o (kZ w) := rfl
    exact W.vret hx hb hr (fun t9 ht9 hW9 => ⟨⟨(), rfl, trivial, by rw [ht9, hEq]; exact hP, by rw [hEq, hAe]; exact hD⟩, hS.F ht9⟩) hS.2.2 dJ7_fill_53178_20
  · refine lv_aload_n hx hb dJ7_fill_53178_10 rfl (lv_at hl 0 rfl) ?_
    refine lv_iload_n hx hb dJ7_fill_53178_11 rfl (lv_at hl 2 rfl) ?_
    refine lv_iload_n hx hb dJ7_fill_53178_12 rfl (lv_at hl 1 rfl) ?_
    refine x_iastC (ws' := rowC ck 10 o (mixZ (k + 1) (kZ w) R)) hx hb hK hP hD hS 0 0 rfl rfl (by decide) (by omega) (fun j _ => congrFun (mix_s (f := kZ w) (by omega)) j) rfl dJ7_fill_53178_13 (fun H locs hP hD hS => ?_)
    refine lv_iinc (v := zI (k + 1)) (lv' := [(2, .int (zI (k + 1))), (0, .ref o), (1, .int (zI w)), (3, .int (zI 10))]) hx hb dJ7_fill_53178_14 hl (k := 2) rfl (zI_add _ _) (by decide) rfl (fun ls hl => ?_)
    refine lv_goto (tgt := 5) hx hb dJ7_fill_53178_17 (by decide) ?_
    exact ih_5 ((k + 1)) (show 0 ≤ (k + 1) ∧ (k + 1) ≤ 10 from (by omega)) (show (10 - (k + 1)).toNat < (10 - k).toNat from by omega) ls H locs (lv_sub hl [1, 2, 0, 3] rfl) hP hD hS

set_option maxHeartbeats 4000000 in
set_option maxRecDepth 100000 in
/-- BenchBroker$NoiseMap.hear -/
theorem c_hear (l : Launch) (dg : va_G) (ck : Nat → ClassId) (na : Nat → Nat) (N : Int → Int) (x y w : Int) (sz : Nat) (hN : r9Z N) (hx : -1 ≤ x ∧ x ≤ 6) (hy : -1 ≤ y ∧ y ≤ 6) : Met l yX4_hear (.code yX4_hear cX4_hear 4 none :: GW) ({ frames := 1, cells := 0, slots := 0, locals := 21 }) (va_Pc [.ref (na 0), .int (zI x), .int (zI y), .int (zI w)] (wrP dg ck sz (nobjC na ++ (rowC ck 36 (na 2) N)))) (va_Qv (fun _ : Unit => True) (fun _ t9 => wrQ dg sz (nobjC na ++ (rowC ck 36 (na 2) N)) (nobjC na ++ (rowC ck 36 (na 2) (hrZ N x y w))) t9) (va_A (nobjC na ++ (rowC ck 36 (na 2) N)) sz)) 0 0 (va_A (nobjC na ++ (rowC ck 36 (na 2) N)) sz) := by
  refine Met.ofW (cc := cX4_hear) (maxL := 4) (ret := none) (by decide) rfl ?_
  intro p e s m args below meth c s₁ B hml hv
  obtain ⟨rfl, hsz, hP, hK, hD0⟩ := hv
  have hx := B.exec
  have hb := B.bytes
  have hr := B.returns
  have hts := atoms_spec (ws := .code yX4_hear cX4_hear 4 none :: GW) B.pre
  have htg : ∀ w ∈ GW, w.before _ s = true := fun w h => hts w (List.mem_cons_of_mem _ h)
  have hown : s.vm.findClass RX4 = some m.cls := findClass_of_methodNamed B.named
  have hlocks := B.notSynchronized
  subst hsz
  have hD := hD0.self (sz := s.heap.size)
  generalize hAe : va_A (nobjC na ++ (rowC ck 36 (na 2) N)) s.heap.size = A at hD ⊢
  have hA : ∀ q : Nat, s.heap.size ≤ q → A q := fun q h => by rw [← hAe]; exact Or.inr h
  have hS : va_S A s.heap s.heap [] := va_S.rf
  have hP : va_P dg vwCl (nobjC na ++ (rowC ck 36 (na 2) N)) s.heap := hP
  have hl := lv_entry ([.ref (na 0), .int (zI x), .int (zI y), .int (zI w)]) (n := 4) (Nat.le_of_ble_eq_true rfl)
  rw [lg_entry_eq]
  generalize (lg_sl ([.ref (na 0), .int (zI x), .int (zI y), .int (zI w)]) ++ List.replicate (4 - (lg_sl ([.ref (na 0), .int (zI x), .int (zI y), .int (zI w)])).length) Slot.unset).toArray = ls at hl ⊢
  have hl : lv_has ls 4 [(0, .ref (na 0)), (1, .int (zI x)), (2, .int (zI y)), (3, .int (zI w))] := hl
  refine lv_iload_n hx hb dX4_hear_0 rfl (lv_at hl 1 rfl) ?_
  refine lv_iload_n hx hb dX4_hear_1 rfl (lv_at hl 2 rfl) ?_
  refine vp_callSi (W.runS (As := [.int (zI x), .int (zI y)]) (rest := []) ⟨hx, hb, hml, hown, htg⟩ (c_hasCell l dg ck x y (by omega) (by omega)) (cwSC 2 htg wq_1447 wq_669 wq_3 wq_670 rfl rfl (by decide +kernel) ⟨Nat.le_of_ble_eq_true rfl, Nat.le_of_ble_eq_true rfl⟩) (rd_preS hK va_P_nil) rfl rfl hl.1 rfl (lv_room (Nat.le_of_ble_eq_true rfl)) dX4_hear_2 ⟨Nat.zero_le _, Nat.zero_le _⟩) (fun r2 hr2 => ?_)
  subst hr2
  refine x_bz_eq (tgt := 34) hx hb dX4_hear_5 (by decide) (fun c5 => ?_) (fun c5 => ?_)
  · have hEq : nobjC na ++ (rowC ck 36 (na 2) (hrZ N x y w)) = nobjC na ++ (rowC ck 36 (na 2) N) := (by unfold hrZ; first | rw [if_pos ⟨by omega, by omega⟩] | rw [if_neg (fun h => by omega)])
    exact W.vret hx hb hr (fun t9 ht9 hW9 => ⟨⟨(), rfl, trivial, by rw [ht9, hEq]; exact hP, by rw [hEq, hAe]; exact hD⟩, hS.F ht9⟩) hS.2.2 dX4_hear_34
  · refine lv_aload_n hx hb dX4_hear_8 rfl (lv_at hl 0 rfl) ?_
    refine va_get (D := dg) (ci := 7) (v := .ref (na 2)) (C := RX4) (T := TX4) (N := 2) hx hb htg inG_X4 hown hK hP 0 rfl rfl 1 (Nat.le_of_ble_eq_true rfl) (htg _ wq_210) (fun _ h9 => h9) rfl dX4_hear_9 ?_
    refine lv_iload_n hx hb dX4_hear_12 rfl (lv_at hl 1 rfl) ?_
    refine x_bipush hx hb dX4_hear_13 (by decide) ?_
    refine x_imul hx hb dX4_hear_15 ?_
    refine lv_iload_n hx hb dX4_hear_16 rfl (lv_at hl 2 rfl) ?_
    refine x_iadd hx hb dX4_hear_17 ?_
    have hn := hN ((x * 6) + y) (by omega) (by omega)
    refine x_iald hx hb hK hP 1 0 N rfl rfl (fun _ => rfl) (P := fun _ => True) (fun _ => trivial) (by decide) (by omega) dX4_hear_18 (fun _ => ?_)
    refine x_if_ne (tgt := 34) hx hb dX4_hear_19 (by decide) (by omega) (fun c19 => ?_) (fun c19 => ?_)
    · have hEq : nobjC na ++ (rowC ck 36 (na 2) (hrZ N x y w)) = nobjC na ++ (rowC ck 36 (na 2) N) := (by unfold hrZ; first | rw [if_pos ⟨by omega, by omega⟩] | rw [if_neg (fun h => by omega)])
      exact W.vret hx hb hr (fun t9 ht9 hW9 => ⟨⟨(), rfl, trivial, by rw [ht9, hEq]; exact hP, by rw [hEq, hAe]; exact hD⟩, hS.F ht9⟩) hS.2.2 dX4_hear_34
    · refine lv_aload_n hx hb dX4_hear_22 rfl (lv_at hl 0 rfl) ?_
      refine va_get (D := dg) (ci := 7) (v := .ref (na 2)) (C := RX4) (T := TX4) (N := 2) hx hb htg inG_X4 hown hK hP 0 rfl rfl 1 (Nat.le_of_ble_eq_true rfl) (htg _ wq_210) (fun _ h9 => h9) rfl dX4_hear_23 ?_
      refine lv_iload_n hx hb dX4_hear_26 rfl (lv_at hl 1 rfl) ?_
      refine x_bipush hx hb dX4_hear_27 (by decide) ?_
      refine x_imul hx hb dX4_hear_29 ?_
      refine lv_iload_n hx hb dX4_hear_30 rfl (lv_at hl 2 rfl) ?_
      refine x_iadd hx hb dX4_hear_31 ?_
      refine lv_iload_n hx hb dX4_hear_32 rfl (lv_at hl 3 rfl) ?_
      refine x_iastC (ws' := nobjC na ++ (rowC ck 36 (na 2) (upZ N ((x * 6) + y) w))) hx hb hK hP hD hS 1 0 rfl rfl (by decide) (by omega) (fun j _ => congrFun (zz_up (by omega)) j) rfl dX4_hear_33 (fun H locs hP hD hS => ?_)
      have hEq : nobjC na ++ (rowC ck 36 (na 2) (hrZ N x y w)) = nobjC na ++ (rowC ck 36 (na 2) (upZ N ((x * 6) + y) w)) := (by unfold hrZ; first | rw [if_pos ⟨by omega, by omega⟩] | rw [if_neg (fun h => by omega)])
      exact W.vret hx hb hr (fun t9 ht9 hW9 => ⟨⟨(), rfl, trivial, by rw [ht9, hEq]; exact hP, by rw [hEq, hAe]; exact hD⟩, hS.F ht9⟩) hS.2.2 dX4_hear_34

set_option maxHeartbeats 4000000 in
set_option maxRecDepth 100000 in
/-- BenchBroker$NoiseMap.passOn -/
theorem c_passOn (l : Launch) (dg : va_G) (ck : Nat → ClassId) (na : Nat → Nat) (N : Int → Int) (x y w : Int) (sz : Nat) (hN : r9Z N) (hx : 0 ≤ x ∧ x ≤ 5) (hy : 0 ≤ y ∧ y ≤ 5) (hw : 0 ≤ w ∧ w ≤ 9) : Met l yX4_passOn (.code yX4_passOn cX4_passOn 4 none :: GW) ({ frames := 2, cells := 0, slots := 0, locals := 44 }) (va_Pc [.ref (na 0), .int (zI x), .int (zI y), .int (zI w)] (wrP dg ck sz (nobjC na ++ (rowC ck 36 (na 2) N)))) (va_Qv (fun _ : Unit => True) (fun _ t9 => wrQ dg sz (nobjC na ++ (rowC ck 36 (na 2) N)) (nobjC na ++ (rowC ck 36 (na 2) (poZ N x y w))) t9) (va_A (nobjC na ++ (rowC ck 36 (na 2) N)) sz)) 0 0 (va_A (nobjC na ++ (rowC ck 36 (na 2) N)) sz) := by
  refine Met.ofW (cc := cX4_passOn) (maxL := 4) (ret := none) (by decide) rfl ?_
  intro p e s m args below meth c s₁ B hml hv
  obtain ⟨rfl, hsz, hP, hK, hD0⟩ := hv
  have hx := B.exec
  have hb := B.bytes
  have hr := B.returns
  have hts := atoms_spec (ws := .code yX4_passOn cX4_passOn 4 none :: GW) B.pre
  have htg : ∀ w ∈ GW, w.before _ s = true := fun w h => hts w (List.mem_cons_of_mem _ h)
  have hown : s.vm.findClass RX4 = some m.cls := findClass_of_methodNamed B.named
  have hlocks := B.notSynchronized
  subst hsz
  have hD := hD0.self (sz := s.heap.size)
  generalize hAe : va_A (nobjC na ++ (rowC ck 36 (na 2) N)) s.heap.size = A at hD ⊢
  have hA : ∀ q : Nat, s.heap.size ≤ q → A q := fun q h => by rw [← hAe]; exact Or.inr h
  have hS : va_S A s.heap s.heap [] := va_S.rf
  have hP : va_P dg vwCl (nobjC na ++ (rowC ck 36 (na 2) N)) s.heap := hP
  have hl := lv_entry ([.ref (na 0), .int (zI x), .int (zI y), .int (zI w)]) (n := 4) (Nat.le_of_ble_eq_true rfl)
  rw [lg_entry_eq]
  generalize (lg_sl ([.ref (na 0), .int (zI x), .int (zI y), .int (zI w)]) ++ List.replicate (4 - (lg_sl ([.ref (na 0), .int (zI x), .int (zI y), .int (zI w)])).length) Slot.unset).toArray = ls at hl ⊢
  have hl : lv_has ls 4 [(0, .ref (na 0)), (1, .int (zI x)), (2, .int (zI y)), (3, .int (zI w))] := hl
  refine lv_aload_n hx hb dX4_passOn_0 rfl (lv_at hl 0 rfl) ?_
  refine lv_iload_n hx hb dX4_passOn_1 rfl (lv_at hl 1 rfl) ?_
  refine x_iconst hx hb dX4_passOn_2 ?_
  refine x_isub hx hb dX4_passOn_3 ?_
  refine lv_iload_n hx hb dX4_passOn_4 rfl (lv_at hl 2 rfl) ?_
  refine lv_iload_n hx hb dX4_passOn_5 rfl (lv_at hl 3 rfl) ?_
  refine x_callv (ws' := nobjC na ++ (rowC ck 36 (na 2) (hrZ N (x - 1) y w))) [] (M := nobjC na ++ (rowC ck 36 (na 2) N)) (M' := nobjC na ++ (rowC ck 36 (na 2) (hrZ N (x - 1) y w))) ([]) (List.append_nil _).symm (List.append_nil _).symm hP hD hS hA (fun hPm hDm => va_runV (As := [.int (zI (x - 1)), .int (zI y), .int (zI w)]) (rest := []) ⟨hx, hb, hml, hown, htg⟩ (c_hear l dg ck na N (x - 1) y w _ hN (by omega) (by omega)) (cwV 3 htg (gwV wq_1443 wq_1445 wp_26 wq_7 wq_1446) rfl rfl rfl (by decide +kernel) ⟨Nat.le_of_ble_eq_true rfl, Nat.le_of_ble_eq_true rfl⟩) (wr_preV hK hPm hDm 0 7 rfl rfl) rfl rfl hl.1 rfl (lv_room (Nat.le_of_ble_eq_true rfl)) dX4_passOn_6 ⟨Nat.zero_le _, Nat.zero_le _⟩) (fun H locs hP hD hS => ?_)
  refine lv_aload_n hx hb dX4_passOn_9 rfl (lv_at hl 0 rfl) ?_
  refine lv_iload_n hx hb dX4_passOn_10 rfl (lv_at hl 1 rfl) ?_
  refine x_iconst hx hb dX4_passOn_11 ?_
  refine x_iadd hx hb dX4_passOn_12 ?_
  refine lv_iload_n hx hb dX4_passOn_13 rfl (lv_at hl 2 rfl) ?_
  refine lv_iload_n hx hb dX4_passOn_14 rfl (lv_at hl 3 rfl) ?_
  refine x_callv (ws' := nobjC na ++ (rowC ck 36 (na 2) (hrZ (hrZ N (x - 1) y w) (x + 1) y w))) [] (M := nobjC na ++ (rowC ck 36 (na 2) (hrZ N (x - 1) y w))) (M' := nobjC na ++ (rowC ck 36 (na 2) (hrZ (hrZ N (x - 1) y w) (x + 1) y w))) ([]) (List.append_nil _).symm (List.append_nil _).symm hP hD hS hA (fun hPm hDm => va_runV (As := [.int (zI (x + 1)), .int (zI y), .int (zI w)]) (rest := []) ⟨hx, hb, hml, hown, htg⟩ (c_hear l dg ck na (hrZ N (x - 1) y w) (x + 1) y w _ (hrZ_r (hN) hw) (by omega) (by omega)) (cwV 3 htg (gwV wq_1443 wq_1445 wp_26 wq_7 wq_1446) rfl rfl rfl (by decide +kernel) ⟨Nat.le_of_ble_eq_true rfl, Nat.le_of_ble_eq_true rfl⟩) (wr_preV hK hPm hDm 0 7 rfl rfl) rfl rfl hl.1 rfl (lv_room (Nat.le_of_ble_eq_true rfl)) dX4_passOn_15 ⟨Nat.zero_le _, Nat.zero_le _⟩) (fun H locs hP hD hS => ?_)
  refine lv_aload_n hx hb dX4_passOn_18 rfl (lv_at hl 0 rfl) ?_
  refine lv_iload_n hx hb dX4_passOn_19 rfl (lv_at hl 1 rfl) ?_
  refine lv_iload_n hx hb dX4_passOn_20 rfl (lv_at hl 2 rfl) ?_
  refine x_iconst hx hb dX4_passOn_21 ?_
  refine x_isub hx hb dX4_passOn_22 ?_
  refine lv_iload_n hx hb dX4_passOn_23 rfl (lv_at hl 3 rfl) ?_
  refine x_callv (ws' := nobjC na ++ (rowC ck 36 (na 2) (hrZ (hrZ (hrZ N (x - 1) y w) (x + 1) y w) x (y - 1) w))) [] (M := nobjC na ++ (rowC ck 36 (na 2) (hrZ (hrZ N (x - 1) y w) (x + 1) y w))) (M' := nobjC na ++ (rowC ck 36 (na 2) (hrZ (hrZ (hrZ N (x - 1) y w) (x + 1) y w) x (y - 1) w))) ([]) (List.append_nil _).symm (List.append_nil _).symm hP hD hS hA (fun hPm hDm => va_runV (As := [.int (zI x), .int (zI (y - 1)), .int (zI w)]) (rest := []) ⟨hx, hb, hml, hown, htg⟩ (c_hear l dg ck na (hrZ (hrZ N (x - 1) y w) (x + 1) y w) x (y - 1) w _ (hrZ_r (hrZ_r (hN) hw) hw) (by omega) (by omega)) (cwV 3 htg (gwV wq_1443 wq_1445 wp_26 wq_7 wq_1446) rfl rfl rfl (by decide +kernel) ⟨Nat.le_of_ble_eq_true rfl, Nat.le_of_ble_eq_true rfl⟩) (wr_preV hK hPm hDm 0 7 rfl rfl) rfl rfl hl.1 rfl (lv_room (Nat.le_of_ble_eq_true rfl)) dX4_passOn_24 ⟨Nat.zero_le _, Nat.zero_le _⟩) (fun H locs hP hD hS => ?_)
  refine lv_aload_n hx hb dX4_passOn_27 rfl (lv_at hl 0 rfl) ?_
  refine lv_iload_n hx hb dX4_passOn_28 rfl (lv_at hl 1 rfl) ?_
  refine lv_iload_n hx hb dX4_passOn_29 rfl (lv_at hl 2 rfl) ?_
  refine x_iconst hx hb dX4_passOn_30 ?_
  refine x_iadd hx hb dX4_passOn_31 ?_
  refine lv_iload_n hx hb dX4_passOn_32 rfl (lv_at hl 3 rfl) ?_
  refine x_callv (ws' := nobjC na ++ (rowC ck 36 (na 2) (hrZ (hrZ (hrZ (hrZ N (x - 1) y w) (x + 1) y w) x (y - 1) w) x (y + 1) w))) [] (M := nobjC na ++ (rowC ck 36 (na 2) (hrZ (hrZ (hrZ N (x - 1) y w) (x + 1) y w) x (y - 1) w))) (M' := nobjC na ++ (rowC ck 36 (na 2) (hrZ (hrZ (hrZ (hrZ N (x - 1) y w) (x + 1) y w) x (y - 1) w) x (y + 1) w))) ([]) (List.append_nil _).symm (List.append_nil _).symm hP hD hS hA (fun hPm hDm => va_runV (As := [.int (zI x), .int (zI (y + 1)), .int (zI w)]) (rest := []) ⟨hx, hb, hml, hown, htg⟩ (c_hear l dg ck na (hrZ (hrZ (hrZ N (x - 1) y w) (x + 1) y w) x (y - 1) w) x (y + 1) w _ (hrZ_r (hrZ_r (hrZ_r (hN) hw) hw) hw) (by omega) (by omega)) (cwV 3 htg (gwV wq_1443 wq_1445 wp_26 wq_7 wq_1446) rfl rfl rfl (by decide +kernel) ⟨Nat.le_of_ble_eq_true rfl, Nat.le_of_ble_eq_true rfl⟩) (wr_preV hK hPm hDm 0 7 rfl rfl) rfl rfl hl.1 rfl (lv_room (Nat.le_of_ble_eq_true rfl)) dX4_passOn_33 ⟨Nat.zero_le _, Nat.zero_le _⟩) (fun H locs hP hD hS => ?_)
  have hEq : nobjC na ++ (rowC ck 36 (na 2) (poZ N x y w)) = nobjC na ++ (rowC ck 36 (na 2) (hrZ (hrZ (hrZ (hrZ N (x - 1) y w) (x + 1) y w) x (y - 1) w) x (y + 1) w)) := rfl
  exact W.vret hx hb hr (fun t9 ht9 hW9 => ⟨⟨(), rfl, trivial, by rw [ht9, hEq]; exact hP, by rw [hEq, hAe]; exact hD⟩, hS.F ht9⟩) hS.2.2 dX4_passOn_36

set_option maxHeartbeats 4000000 in
set_option maxRecDepth 100000 in
/-- BenchBroker$NoiseMap.spreadFrom -/
theorem c_spreadFrom (l : Launch) (dg : va_G) (ck : Nat → ClassId) (na : Nat → Nat) (N : Int → Int) (x y : Int) (sz : Nat) (hxx : 0 ≤ x ∧ x < 36) (hyy : 0 ≤ y ∧ y ≤ 9) : Met l yX4_spreadFrom (.code yX4_spreadFrom cX4_spreadFrom 5 none :: GW) ({ frames := 3, cells := 0, slots := 0, locals := 67 }) (va_Pc [.ref (na 0), .int (zI x), .int (zI y)] (wrP dg ck sz (nobjC na ++ (rowC ck 36 (na 2) N)))) (va_Qv (fun _ : Unit => True) (fun _ t9 => wrQ dg sz (nobjC na ++ (rowC ck 36 (na 2) N)) (nobjC na ++ (rowC ck 36 (na 2) (sdF x y))) t9) (va_A (nobjC na ++ (rowC ck 36 (na 2) N)) sz)) 0 0 (va_A (nobjC na ++ (rowC ck 36 (na 2) N)) sz) := by
  refine Met.ofW (cc := cX4_spreadFrom) (maxL := 5) (ret := none) (by decide) rfl ?_
  intro p e s m args below meth c s₁ B hml hv
  obtain ⟨rfl, hsz, hP, hK, hD0⟩ := hv
  have hx := B.exec
  have hb := B.bytes
  have hr := B.returns
  have hts := atoms_spec (ws := .code yX4_spreadFrom cX4_spreadFrom 5 none :: GW) B.pre
  have htg : ∀ w ∈ GW, w.before _ s = true := fun w h => hts w (List.mem_cons_of_mem _ h)
  have hown : s.vm.findClass RX4 = some m.cls := findClass_of_methodNamed B.named
  have hlocks := B.notSynchronized
  subst hsz
  have hD := hD0.self (sz := s.heap.size)
  generalize hAe : va_A (nobjC na ++ (rowC ck 36 (na 2) N)) s.heap.size = A at hD ⊢
  have hA : ∀ q : Nat, s.heap.size ≤ q → A q := fun q h => by rw [← hAe]; exact Or.inr h
  have hS : va_S A s.heap s.heap [] := va_S.rf
  have hP : va_P dg vwCl (nobjC na ++ (rowC ck 36 (na 2) N)) s.heap := hP
  have hl := lv_entry ([.ref (na 0), .int (zI x), .int (zI y)]) (n := 5) (Nat.le_of_ble_eq_true rfl)
  rw [lg_entry_eq]
  generalize (lg_sl ([.ref (na 0), .int (zI x), .int (zI y)]) ++ List.replicate (5 - (lg_sl ([.ref (na 0), .int (zI x), .int (zI y)])).length) Slot.unset).toArray = ls at hl ⊢
  have hl : lv_has ls 5 [(0, .ref (na 0)), (1, .int (zI x)), (2, .int (zI y))] := hl
  refine lv_aload_n hx hb dX4_spreadFrom_0 rfl (lv_at hl 0 rfl) ?_
  refine va_get (D := dg) (ci := 7) (v := .ref (na 2)) (C := RX4) (T := TX4) (N := 2) hx hb htg inG_X4 hown hK hP 0 rfl rfl 1 (Nat.le_of_ble_eq_true rfl) (htg _ wq_210) (fun _ h9 => h9) rfl dX4_spreadFrom_1 ?_
  refine x_iconst hx hb dX4_spreadFrom_4 ?_
  refine x_callv (ws' := nobjC na ++ (rowC ck 36 (na 2) (kZ 0))) (nobjC na) (M := rowC ck 36 (na 2) N) (M' := rowC ck 36 (na 2) (kZ 0)) ([]) (by rw [List.append_nil]) (by rw [List.append_nil]) hP hD hS hA (fun hPm hDm => va_runS (As := [.ref (na 2), .int (zI 0)]) (rest := []) ⟨hx, hb, hml, hown, htg⟩ (j_fill36 l dg ck (na 2) N 0 _ ) (cwSC 2 htg wq_1434 wq_104 wq_4 wq_105 rfl rfl (by decide +kernel) ⟨Nat.le_of_ble_eq_true rfl, Nat.le_of_ble_eq_true rfl⟩) (wr_preS hK hPm hDm) rfl rfl hl.1 rfl (lv_room (Nat.le_of_ble_eq_true rfl)) dX4_spreadFrom_5 ⟨Nat.zero_le _, Nat.zero_le _⟩) (fun H locs hP hD hS => ?_)
  refine lv_aload_n hx hb dX4_spreadFrom_8 rfl (lv_at hl 0 rfl) ?_
  refine va_get (D := dg) (ci := 7) (v := .ref (na 2)) (C := RX4) (T := TX4) (N := 2) hx hb htg inG_X4 hown hK hP 0 rfl rfl 1 (Nat.le_of_ble_eq_true rfl) (htg _ wq_210) (fun _ h9 => h9) rfl dX4_spreadFrom_9 ?_
  refine lv_iload_n hx hb dX4_spreadFrom_12 rfl (lv_at hl 1 rfl) ?_
  refine lv_iload_n hx hb dX4_spreadFrom_13 rfl (lv_at hl 2 rfl) ?_
  refine x_iastC (ws' := nobjC na ++ (rowC ck 36 (na 2) (upZ (kZ 0) x y))) hx hb hK hP hD hS 1 0 rfl rfl (by decide) (by omega) (fun j _ => congrFun (zz_up (by omega)) j) rfl dX4_spreadFrom_14 (fun H locs hP hD hS => ?_)
  refine lv_iload_n hx hb dX4_spreadFrom_15 rfl (lv_at hl 2 rfl) ?_
  refine lv_istore_n (lv' := [(3, .int (zI y)), (0, .ref (na 0)), (1, .int (zI x)), (2, .int (zI y))]) hx hb dX4_spreadFrom_16 rfl hl (by decide) rfl (fun ls hl => ?_)
  refine x_loopW (ι := (Int → Int) × Int) (fun v => (0 ≤ v.2 ∧ v.2 ≤ y) ∧ (y - v.2) % 2 = 0 ∧ soO x y v.2 v.1) (fun v => v.2.toNat) (fun v => [(0, .ref (na 0)), (1, .int (zI x)), (2, .int (zI y)), (3, .int (zI v.2))]) (fun v => nobjC na ++ (rowC ck 36 (na 2) v.1)) ((upZ (kZ 0) x y), y) (show (0 ≤ y ∧ y ≤ y) ∧ (y - y) % 2 = 0 ∧ soO x y y (upZ (kZ 0) x y) from ⟨by omega, by omega, so_i hxx⟩) (lv_sub hl [1, 2, 3, 0] rfl) hP hD hS ?_
  intro v hv ih_17 ls H locs hl hP hD hS
  obtain ⟨F, f⟩ := v
  have hl : lv_has ls 5 [(0, .ref (na 0)), (1, .int (zI x)), (2, .int (zI y)), (3, .int (zI f))] := hl
  have hv : (0 ≤ f ∧ f ≤ y) ∧ (y - f) % 2 = 0 ∧ soO x y f F := hv
  have hP : va_P dg vwCl (nobjC na ++ (rowC ck 36 (na 2) F)) H := hP
  have hD : va_D A (nobjC na ++ (rowC ck 36 (na 2) F)) := hD
  obtain ⟨hf, hpar, hO⟩ := hv
  refine lv_iload_n hx hb dX4_spreadFrom_17 rfl (lv_at hl 3 rfl) ?_
  refine x_iconst hx hb dX4_spreadFrom_18 ?_
  refine x_icmp_le (tgt := 75) hx hb dX4_spreadFrom_19 (by decide) (by omega) (by omega) (fun c19 => ?_) (fun c19 => ?_)
  · have hP : va_P dg vwCl (nobjC na ++ (rowC ck 36 (na 2) (sdF x y))) _ := va_P_ch hP 1 rfl (so_f (by omega) hpar hO) rfl
    have hD : va_D A (nobjC na ++ (rowC ck 36 (na 2) (sdF x y))) := va_D_ch hD 1 rfl rfl
    have hEq : nobjC na ++ (rowC ck 36 (na 2) (sdF x y)) = nobjC na ++ (rowC ck 36 (na 2) (sdF x y)) := rfl
    exact W.vret hx hb hr (fun t9 ht9 hW9 => ⟨⟨(), rfl, trivial, by rw [ht9, hEq]; exact hP, by rw [hEq, hAe]; exact hD⟩, hS.F ht9⟩) hS.2.2 dX4_spreadFrom_75
  · refine x_iconst hx hb dX4_spreadFrom_22 ?_
    refine lv_istore (lv' := [(4, .int (zI 0)), (0, .ref (na 0)), (1, .int (zI x)), (2, .int (zI y)), (3, .int (zI f))]) hx hb dX4_spreadFrom_23 hl (by decide) rfl (fun ls hl => ?_)
    refine x_loopW (ι := (Int → Int) × Int) (fun v => (0 ≤ v.2 ∧ v.2 ≤ 36) ∧ soJ x y f v.2 v.1) (fun v => (36 - v.2).toNat) (fun v => [(0, .ref (na 0)), (1, .int (zI x)), (2, .int (zI y)), (3, .int (zI f)), (4, .int (zI v.2))]) (fun v => nobjC na ++ (rowC ck 36 (na 2) v.1)) (F, 0) (show (0 ≤ (0 : Int) ∧ (0 : Int) ≤ 36) ∧ soJ x y f (0 : Int) F from ⟨by omega, so_0 hO⟩) (lv_sub hl [1, 2, 3, 4, 0] rfl) hP hD hS ?_
    intro v hv ih_25 ls H locs hl hP hD hS
    obtain ⟨G, i⟩ := v
    have hl : lv_has ls 5 [(0, .ref (na 0)), (1, .int (zI x)), (2, .int (zI y)), (3, .int (zI f)), (4, .int (zI i))] := hl
    have hv : (0 ≤ i ∧ i ≤ 36) ∧ soJ x y f i G := hv
    have hP : va_P dg vwCl (nobjC na ++ (rowC ck 36 (na 2) G)) H := hP
    have hD : va_D A (nobjC na ++ (rowC ck 36 (na 2) G)) := hD
    obtain ⟨hi, hJ⟩ := hv
    have hG := so_r (by omega) hpar hyy.2 hJ.1 hf.2
    refine lv_iload hx hb dX4_spreadFrom_25 (lv_at hl 4 rfl) ?_
    refine lv_aload_n hx hb dX4_spreadFrom_27 rfl (lv_at hl 0 rfl) ?_
    refine va_get (D := dg) (ci := 7) (v := .ref (na 2)) (C := RX4) (T := TX4) (N := 2) hx hb htg inG_X4 hown hK hP 0 rfl rfl 1 (Nat.le_of_ble_eq_true rfl) (htg _ wq_210) (fun _ h9 => h9) rfl dX4_spreadFrom_28 ?_
    refine x_alen hx hb hK hP 1 0 rfl rfl dX4_spreadFrom_31 ?_
    refine x_icmp_ge (tgt := 69) hx hb dX4_spreadFrom_32 (by decide) (by omega) (by omega) (fun c32 => ?_) (fun c32 => ?_)
    · obtain ⟨v69, e_v69⟩ : ∃ y : Int, y = f + (-2) := ⟨_, rfl⟩
      refine lv_iinc (v := zI v69) (lv' := [(3, .int (zI v69)), (0, .ref (na 0)), (1, .int (zI x)), (2, .int (zI y)), (4, .int (zI i))]) hx hb dX4_spreadFrom_69 hl (k := 3) rfl (by rw [e_v69]; exact zI_add _ _) (by decide) rfl (fun ls hl => ?_)
      refine lv_goto (tgt := 17) hx hb dX4_spreadFrom_72 (by decide) ?_
      exact ih_17 (G, v69) (show (0 ≤ v69 ∧ v69 ≤ y) ∧ (y - v69) % 2 = 0 ∧ soO x y v69 G from ⟨by omega, by omega, by rw [show v69 = f - 2 by omega]; exact so_e (by omega) hpar hf.2 hxx (by omega) hJ⟩) (show v69.toNat < f.toNat from by omega) ls H locs (lv_sub hl [1, 2, 3, 0] rfl) hP hD hS
    · refine lv_aload_n hx hb dX4_spreadFrom_35 rfl (lv_at hl 0 rfl) ?_
      refine va_get (D := dg) (ci := 7) (v := .ref (na 2)) (C := RX4) (T := TX4) (N := 2) hx hb htg inG_X4 hown hK hP 0 rfl rfl 1 (Nat.le_of_ble_eq_true rfl) (htg _ wq_210) (fun _ h9 => h9) rfl dX4_spreadFrom_36 ?_
      refine lv_iload hx hb dX4_spreadFrom_39 (lv_at hl 4 rfl) ?_
      have hg := hG i (by omega) (by omega)
      refine x_iald hx hb hK hP 1 0 G rfl rfl (fun _ => rfl) (P := fun _ => True) (fun _ => trivial) (by decide) (by omega) dX4_spreadFrom_41 (fun _ => ?_)
      refine lv_iload_n hx hb dX4_spreadFrom_42 rfl (lv_at hl 3 rfl) ?_
      refine x_icmp_ne (tgt := 63) hx hb dX4_spreadFrom_43 (by decide) (by omega) (by omega) (fun c43 => ?_) (fun c43 => ?_)
      · obtain ⟨v63, e_v63⟩ : ∃ y : Int, y = i + 1 := ⟨_, rfl⟩
        refine lv_iinc (v := zI v63) (lv' := [(4, .int (zI v63)), (0, .ref (na 0)), (1, .int (zI x)), (2, .int (zI y)), (3, .int (zI f))]) hx hb dX4_spreadFrom_63 hl (k := 4) rfl (by rw [e_v63]; exact zI_add _ _) (by decide) rfl (fun ls hl => ?_)
        refine lv_goto (tgt := 25) hx hb dX4_spreadFrom_66 (by decide) ?_
        exact ih_25 (G, v63) (show (0 ≤ v63 ∧ v63 ≤ 36) ∧ soJ x y f v63 G from ⟨by omega, by rw [e_v63]; first | exact so_h (by omega) hpar (by omega) hJ (by omega) | exact so_m (by omega) hpar (by omega) hJ (by omega)⟩) (show (36 - v63).toNat < (36 - i).toNat from by omega) ls H locs (lv_sub hl [1, 2, 3, 4, 0] rfl) hP hD hS
      · refine lv_aload_n hx hb dX4_spreadFrom_46 rfl (lv_at hl 0 rfl) ?_
        refine lv_iload hx hb dX4_spreadFrom_47 (lv_at hl 4 rfl) ?_
        refine x_bipush hx hb dX4_spreadFrom_49 (by decide) ?_
        refine x_idiv hx hb dX4_spreadFrom_51 (by omega) (by omega) ?_
        refine lv_iload hx hb dX4_spreadFrom_52 (lv_at hl 4 rfl) ?_
        refine x_bipush hx hb dX4_spreadFrom_54 (by decide) ?_
        refine x_irem hx hb dX4_spreadFrom_56 (by omega) (by omega) ?_
        refine lv_iload_n hx hb dX4_spreadFrom_57 rfl (lv_at hl 3 rfl) ?_
        refine x_iconst hx hb dX4_spreadFrom_58 ?_
        refine x_isub hx hb dX4_spreadFrom_59 ?_
        refine x_callv (ws' := nobjC na ++ (rowC ck 36 (na 2) (poZ G (i / 6) (i % 6) (f - 2)))) [] (M := nobjC na ++ (rowC ck 36 (na 2) G)) (M' := nobjC na ++ (rowC ck 36 (na 2) (poZ G (i / 6) (i % 6) (f - 2)))) ([]) (List.append_nil _).symm (List.append_nil _).symm hP hD hS hA (fun hPm hDm => va_runV (As := [.int (zI (i / 6)), .int (zI (i % 6)), .int (zI (f - 2))]) (rest := []) ⟨hx, hb, hml, hown, htg⟩ (c_passOn l dg ck na G (i / 6) (i % 6) (f - 2) _ hG (by omega) (by omega) (by omega)) (cwV 3 htg (gwV wq_1439 wq_1441 wp_25 wq_7 wq_1442) rfl rfl rfl (by decide +kernel) ⟨Nat.le_of_ble_eq_true rfl, Nat.le_of_ble_eq_true rfl⟩) (wr_preV hK hPm hDm 0 7 rfl rfl) rfl rfl hl.1 rfl (lv_room (Nat.le_of_ble_eq_true rfl)) dX4_spreadFrom_60 ⟨Nat.zero_le _, Nat.zero_le _⟩) (fun H locs hP hD hS => ?_)
        obtain ⟨v63, e_v63⟩ : ∃ y : Int, y = i + 1 := ⟨_, rfl⟩
        refine lv_iinc (v := zI v63) (lv' := [(4, .int (zI v63)), (0, .ref (na 0)), (1, .int (zI x)), (2, .int (zI y)), (3, .int (zI f))]) hx hb dX4_spreadFrom_63 hl (k := 4) rfl (by rw [e_v63]; exact zI_add _ _) (by decide) rfl (fun ls hl => ?_)
        refine lv_goto (tgt := 25) hx hb dX4_spreadFrom_66 (by decide) ?_
        exact ih_25 ((poZ G (i / 6) (i % 6) (f - 2)), v63) (show (0 ≤ v63 ∧ v63 ≤ 36) ∧ soJ x y f v63 (poZ G (i / 6) (i % 6) (f - 2)) from ⟨by omega, by rw [e_v63]; first | exact so_h (by omega) hpar (by omega) hJ (by omega) | exact so_m (by omega) hpar (by omega) hJ (by omega)⟩) (show (36 - v63).toNat < (36 - i).toNat from by omega) ls H locs (lv_sub hl [1, 2, 3, 4, 0] rfl) hP hD hS

set_option maxHeartbeats 4000000 in
set_option maxRecDepth 100000 in
/-- BenchBroker$NoiseMap.addSound -/
theorem c_addSound (l : Launch) (dg : va_G) (ck : Nat → ClassId) (na : Nat → Nat) (T N : Int → Int) (sz : Nat)  : Met l yX4_addSound (.code yX4_addSound cX4_addSound 2 none :: GW) ({ frames := 0, cells := 0, slots := 0, locals := 0 }) (va_Pc [.ref (na 0)] (wrP dg ck sz (nobjC na ++ (rowC ck 36 (na 1) T ++ (rowC ck 36 (na 2) N))))) (va_Qv (fun _ : Unit => True) (fun _ t9 => wrQ dg sz (nobjC na ++ (rowC ck 36 (na 1) T ++ (rowC ck 36 (na 2) N))) (nobjC na ++ (rowC ck 36 (na 1) (adZ T N) ++ (rowC ck 36 (na 2) N))) t9) (va_A (nobjC na ++ (rowC ck 36 (na 1) T ++ (rowC ck 36 (na 2) N))) sz)) 0 0 (va_A (nobjC na ++ (rowC ck 36 (na 1) T ++ (rowC ck 36 (na 2) N))) sz) := by
  refine Met.ofW (cc := cX4_addSound) (maxL := 2) (ret := none) (by decide) rfl ?_
  intro p e s m args below meth c s₁ B hml hv
  obtain ⟨rfl, hsz, hP, hK, hD0⟩ := hv
  have hx := B.exec
  have hb := B.bytes
  have hr := B.returns
  have hts := atoms_spec (ws := .code yX4_addSound cX4_addSound 2 none :: GW) B.pre
  have htg : ∀ w ∈ GW, w.before _ s = true := fun w h => hts w (List.mem_cons_of_mem _ h)
  have hown : s.vm.findClass RX4 = some m.cls := findClass_of_methodNamed B.named
  have hlocks := B.notSynchronized
  subst hsz
  have hD := hD0.self (sz := s.heap.size)
  generalize hAe : va_A (nobjC na ++ (rowC ck 36 (na 1) T ++ (rowC ck 36 (na 2) N))) s.heap.size = A at hD ⊢
  have hA : ∀ q : Nat, s.heap.size ≤ q → A q := fun q h => by rw [← hAe]; exact Or.inr h
  have hS : va_S A s.heap s.heap [] := va_S.rf
  have hP : va_P dg vwCl (nobjC na ++ (rowC ck 36 (na 1) T ++ (rowC ck 36 (na 2) N))) s.heap := hP
  have hl := lv_entry ([.ref (na 0)]) (n := 2) (Nat.le_of_ble_eq_true rfl)
  rw [lg_entry_eq]
  generalize (lg_sl ([.ref (na 0)]) ++ List.replicate (2 - (lg_sl ([.ref (na 0)])).length) Slot.unset).toArray = ls at hl ⊢
  have hl : lv_has ls 2 [(0, .ref (na 0))] := hl
  refine x_iconst hx hb dX4_addSound_0 ?_
  refine lv_istore_n (lv' := [(1, .int (zI 0)), (0, .ref (na 0))]) hx hb dX4_addSound_1 rfl hl (by decide) rfl (fun ls hl => ?_)
  have hP : va_P dg vwCl (nobjC na ++ (rowC ck 36 (na 1) (mixZ 0 (adZ T N) T) ++ (rowC ck 36 (na 2) N))) _ := va_P_ch hP 1 rfl (fun j _ => mix_0 _ _ j) rfl
  have hD : va_D A (nobjC na ++ (rowC ck 36 (na 1) (mixZ 0 (adZ T N) T) ++ (rowC ck 36 (na 2) N))) := va_D_ch hD 1 rfl rfl
  refine x_loopW (ι := Int) (fun v => 0 ≤ v ∧ v ≤ 36) (fun v => (36 - v).toNat) (fun v => [(0, .ref (na 0)), (1, .int (zI v))]) (fun v => nobjC na ++ (rowC ck 36 (na 1) (mixZ v (adZ T N) T) ++ (rowC ck 36 (na 2) N))) (0) (show 0 ≤ (0 : Int) ∧ (0 : Int) ≤ 36 from (by omega)) (lv_sub hl [1, 0] rfl) hP hD hS ?_
  intro v hv ih_2 ls H locs hl hP hD hS
  obtain ⟨k, rfl⟩ : ∃ z : Int, z = v := ⟨_, rfl⟩
  have hl : lv_has ls 2 [(0, .ref (na 0)), (1, .int (zI k))] := hl
  have hv : 0 ≤ k ∧ k ≤ 36 := hv
  have hP : va_P dg vwCl (nobjC na ++ (rowC ck 36 (na 1) (mixZ k (adZ T N) T) ++ (rowC ck 36 (na 2) N))) H := hP
  have hD : va_D A (nobjC na ++ (rowC ck 36 (na 1) (mixZ k (adZ T N) T) ++ (rowC ck 36 (na 2) N))) := hD
  obtain ⟨hk0, hk9⟩ := hv
  refine lv_iload_n hx hb dX4_addSound_2 rfl (lv_at hl 1 rfl) ?_
  refine lv_aload_n hx hb dX4_addSound_3 rfl (lv_at hl 0 rfl) ?_
  refine va_get (D := dg) (ci := 7) (v := .ref (na 1)) (C := RX4) (T := TX4) (N := 2) hx hb htg inG_X4 hown hK hP 0 rfl rfl 0 (Nat.le_of_ble_eq_true rfl) (htg _ wq_208) (fun _ h9 => h9) rfl dX4_addSound_4 ?_
  refine x_alen hx hb hK hP 1 0 rfl rfl dX4_addSound_7 ?_
  refine x_icmp_ge (tgt := 32) hx hb dX4_addSound_8 (by decide) (by omega) (by omega) (fun c8 => ?_) (fun c8 => ?_)
  · have hP : va_P dg vwCl (nobjC na ++ (rowC ck 36 (na 1) (adZ T N) ++ (rowC ck 36 (na 2) N))) _ := va_P_ch hP 1 rfl (mix_e (by omega)) rfl
    have hD : va_D A (nobjC na ++ (rowC ck 36 (na 1) (adZ T N) ++ (rowC ck 36 (na 2) N))) := va_D_ch hD 1 rfl rfl
    have hEq : nobjC na ++ (rowC ck 36 (na 1) (adZ T N) ++ (rowC ck 36 (na 2) N)) = nobjC na ++ (rowC ck 36 (na 1) (adZ T N) ++ (rowC ck 36 (na 2) N)) := rfl
    exact W.vret hx hb hr (fun t9 ht9 hW9 => ⟨⟨(), rfl, trivial, by rw [ht9, hEq]; exact hP, by rw [hEq, hAe]; exact hD⟩, hS.F ht9⟩) hS.2.2 dX4_addSound_32
  · refine lv_aload_n hx hb dX4_addSound_11 rfl (lv_at hl 0 rfl) ?_
    refine va_get (D := dg) (ci := 7) (v := .ref (na 1)) (C := RX4) (T := TX4) (N := 2) hx hb htg inG_X4 hown hK hP 0 rfl rfl 0 (Nat.le_of_ble_eq_true rfl) (htg _ wq_208) (fun _ h9 => h9) rfl dX4_addSound_12 ?_
    refine lv_iload_n hx hb dX4_addSound_15 rfl (lv_at hl 1 rfl) ?_
    refine lv_dup2_11 hx hb dX4_addSound_16 rfl rfl ?_
    refine x_iald hx hb hK hP 1 0 (mixZ k (adZ T N) T) rfl rfl (fun _ => rfl) (P := fun _ => True) (fun _ => trivial) (by decide) (by omega) dX4_addSound_17 (fun _ => ?_)
    refine lv_aload_n hx hb dX4_addSound_18 rfl (lv_at hl 0 rfl) ?_
    refine va_get (D := dg) (ci := 7) (v := .ref (na 2)) (C := RX4) (T := TX4) (N := 2) hx hb htg inG_X4 hown hK hP 0 rfl rfl 1 (Nat.le_of_ble_eq_true rfl) (htg _ wq_210) (fun _ h9 => h9) rfl dX4_addSound_19 ?_
    refine lv_iload_n hx hb dX4_addSound_22 rfl (lv_at hl 1 rfl) ?_
    refine x_iald hx hb hK hP 2 0 N rfl rfl (fun _ => rfl) (P := fun _ => True) (fun _ => trivial) (by decide) (by omega) dX4_addSound_23 (fun _ => ?_)
    refine x_iadd hx hb dX4_addSound_24 ?_
    refine x_iastC (ws' := nobjC na ++ (rowC ck 36 (na 1) (mixZ (k + 1) (adZ T N) T) ++ (rowC ck 36 (na 2) N))) hx hb hK hP hD hS 1 0 rfl rfl (by decide) (by omega) (ad_p (by omega)) rfl dX4_addSound_25 (fun H locs hP hD hS => ?_)
    refine lv_iinc (v := zI (k + 1)) (lv' := [(1, .int (zI (k + 1))), (0, .ref (na 0))]) hx hb dX4_addSound_26 hl (k := 1) rfl (zI_add _ _) (by decide) rfl (fun ls hl => ?_)
    refine lv_goto (tgt := 2) hx hb dX4_addSound_29 (by decide) ?_
    exact ih_2 ((k + 1)) (show 0 ≤ (k + 1) ∧ (k + 1) ≤ 36 from (by omega)) (show (36 - (k + 1)).toNat < (36 - k).toNat from by omega) ls H locs (lv_sub hl [1, 0] rfl) hP hD hS

set_option maxHeartbeats 4000000 in
set_option maxRecDepth 100000 in
/-- BenchBroker$NoiseMap.spreadAll -/
theorem c_spreadAll (l : Launch) (dg : va_G) (ck : Nat → ClassId) (na a : Nat → Nat) (T N : Int → Int) (S : St) (sz : Nat) (hI : Bd S) : Met l yX4_spreadAll (.code yX4_spreadAll cX4_spreadAll 4 none :: GW) ({ frames := 4, cells := 0, slots := 0, locals := 91 }) (va_Pc [.ref (na 0), .ref (a 0)] (wrP dg ck sz (nobjC na ++ (rowC ck 36 (na 1) T ++ (rowC ck 36 (na 2) N ++ (parkC ck a S)))))) (va_Qv (fun _ : Unit => True) (fun _ t9 => wrQ dg sz (nobjC na ++ (rowC ck 36 (na 1) T ++ (rowC ck 36 (na 2) N ++ (parkC ck a S)))) (nobjC na ++ (rowC ck 36 (na 1) (nsF S) ++ (rowC ck 36 (na 2) (slZ S N (S 0 1).toNat) ++ (parkC ck a S)))) t9) (va_A (nobjC na ++ (rowC ck 36 (na 1) T ++ (rowC ck 36 (na 2) N ++ (parkC ck a S)))) sz)) 0 0 (va_A (nobjC na ++ (rowC ck 36 (na 1) T ++ (rowC ck 36 (na 2) N ++ (parkC ck a S)))) sz) := by
  refine Met.ofW (cc := cX4_spreadAll) (maxL := 4) (ret := none) (by decide) rfl ?_
  intro p e s m args below meth c s₁ B hml hv
  obtain ⟨rfl, hsz, hP, hK, hD0⟩ := hv
  have hx := B.exec
  have hb := B.bytes
  have hr := B.returns
  have hts := atoms_spec (ws := .code yX4_spreadAll cX4_spreadAll 4 none :: GW) B.pre
  have htg : ∀ w ∈ GW, w.before _ s = true := fun w h => hts w (List.mem_cons_of_mem _ h)
  have hown : s.vm.findClass RX4 = some m.cls := findClass_of_methodNamed B.named
  have hlocks := B.notSynchronized
  subst hsz
  have hD := hD0.self (sz := s.heap.size)
  generalize hAe : va_A (nobjC na ++ (rowC ck 36 (na 1) T ++ (rowC ck 36 (na 2) N ++ (parkC ck a S)))) s.heap.size = A at hD ⊢
  have hA : ∀ q : Nat, s.heap.size ≤ q → A q := fun q h => by rw [← hAe]; exact Or.inr h
  have hS : va_S A s.heap s.heap [] := va_S.rf
  have hP : va_P dg vwCl (nobjC na ++ (rowC ck 36 (na 1) T ++ (rowC ck 36 (na 2) N ++ (parkC ck a S)))) s.heap := hP
  have hl := lv_entry ([.ref (na 0), .ref (a 0)]) (n := 4) (Nat.le_of_ble_eq_true rfl)
  rw [lg_entry_eq]
  generalize (lg_sl ([.ref (na 0), .ref (a 0)]) ++ List.replicate (4 - (lg_sl ([.ref (na 0), .ref (a 0)])).length) Slot.unset).toArray = ls at hl ⊢
  have hl : lv_has ls 4 [(0, .ref (na 0)), (1, .ref (a 0))] := hl
  obtain ⟨b00, b01, b02, b03, b1, b2, b3, b4, b5, b6, b7, b8, b9, b10, b11, b12⟩ := id hI
  refine lv_aload_n hx hb dX4_spreadAll_0 rfl (lv_at hl 0 rfl) ?_
  refine va_get (D := dg) (ci := 7) (v := .ref (na 1)) (C := RX4) (T := TX4) (N := 2) hx hb htg inG_X4 hown hK hP 0 rfl rfl 0 (Nat.le_of_ble_eq_true rfl) (htg _ wq_208) (fun _ h9 => h9) rfl dX4_spreadAll_1 ?_
  refine x_iconst hx hb dX4_spreadAll_4 ?_
  refine x_callvB (ws' := nobjC na ++ (rowC ck 36 (na 1) (kZ 0) ++ (rowC ck 36 (na 2) N ++ (parkC ck a S)))) (M := rowC ck 36 (na 1) T) (M' := rowC ck 36 (na 1) (kZ 0)) (N := nobjC na ++ (rowC ck 36 (na 2) N ++ (parkC ck a S))) (cat_perm [nobjC na, rowC ck 36 (na 1) T, rowC ck 36 (na 2) N, parkC ck a S] [1] [0, 2, 3] 4 rfl (by decide)) (cat_perm [nobjC na, rowC ck 36 (na 1) (kZ 0), rowC ck 36 (na 2) N, parkC ck a S] [1] [0, 2, 3] 4 rfl (by decide)) hP hD hS hA (fun hPm hDm => va_runS (As := [.ref (na 1), .int (zI 0)]) (rest := []) ⟨hx, hb, hml, hown, htg⟩ (j_fill36 l dg ck (na 1) T 0 _ ) (cwSC 2 htg wq_1434 wq_104 wq_4 wq_105 rfl rfl (by decide +kernel) ⟨Nat.le_of_ble_eq_true rfl, Nat.le_of_ble_eq_true rfl⟩) (wr_preS hK hPm hDm) rfl rfl hl.1 rfl (lv_room (Nat.le_of_ble_eq_true rfl)) dX4_spreadAll_5 ⟨Nat.zero_le _, Nat.zero_le _⟩) (fun H locs hP hD hS => ?_)
  refine x_iconst hx hb dX4_spreadAll_8 ?_
  refine lv_istore_n (lv' := [(2, .int (zI 0)), (0, .ref (na 0)), (1, .ref (a 0))]) hx hb dX4_spreadAll_9 rfl hl (by decide) rfl (fun ls hl => ?_)
  have hP : va_P dg vwCl (nobjC na ++ (rowC ck 36 (na 1) (nzF S (0 : Int).toNat) ++ (rowC ck 36 (na 2) N ++ (parkC ck a S)))) _ := va_P_ch hP 1 rfl (fun j _ => rfl) rfl
  have hD : va_D A (nobjC na ++ (rowC ck 36 (na 1) (nzF S (0 : Int).toNat) ++ (rowC ck 36 (na 2) N ++ (parkC ck a S)))) := va_D_ch hD 1 rfl rfl
  refine x_loopW (ι := Int) (fun v => 0 ≤ v ∧ v ≤ S 0 1) (fun v => (S 0 1 - v).toNat) (fun v => [(0, .ref (na 0)), (1, .ref (a 0)), (2, .int (zI v))]) (fun v => nobjC na ++ (rowC ck 36 (na 1) (nzF S v.toNat) ++ (rowC ck 36 (na 2) (slZ S N v.toNat) ++ (parkC ck a S)))) (0) (show 0 ≤ (0 : Int) ∧ (0 : Int) ≤ S 0 1 from (by omega)) (lv_sub hl [1, 2, 0] rfl) hP hD hS ?_
  intro v hv ih_10 ls H locs hl hP hD hS
  obtain ⟨i, rfl⟩ : ∃ z : Int, z = v := ⟨_, rfl⟩
  have hl : lv_has ls 4 [(0, .ref (na 0)), (1, .ref (a 0)), (2, .int (zI i))] := hl
  have hv : 0 ≤ i ∧ i ≤ S 0 1 := hv
  have hP : va_P dg vwCl (nobjC na ++ (rowC ck 36 (na 1) (nzF S i.toNat) ++ (rowC ck 36 (na 2) (slZ S N i.toNat) ++ (parkC ck a S)))) H := hP
  have hD : va_D A (nobjC na ++ (rowC ck 36 (na 1) (nzF S i.toNat) ++ (rowC ck 36 (na 2) (slZ S N i.toNat) ++ (parkC ck a S)))) := hD
  obtain hi := hv
  refine lv_iload_n hx hb dX4_spreadAll_10 rfl (lv_at hl 2 rfl) ?_
  refine lv_aload_n hx hb dX4_spreadAll_11 rfl (lv_at hl 1 rfl) ?_
  refine va_get (D := dg) (ci := 9) (v := .int (zI (S 0 1))) (C := RX6) (T := TX6) (N := 10) hx hb htg inG_X6 hown hK hP 3 rfl rfl 4 (Nat.le_of_ble_eq_true rfl) (htg _ wq_66) (fun _ h9 => h9) rfl dX4_spreadAll_12 ?_
  refine x_icmp_ge (tgt := 65) hx hb dX4_spreadAll_15 (by decide) (by omega) (by omega) (fun c15 => ?_) (fun c15 => ?_)
  · have hCe : (nsF S) = (nzF S i.toNat) := (by rw [show i = S 0 1 by omega] <;> rfl)
    have hP : va_P dg vwCl (nobjC na ++ (rowC ck 36 (na 1) (nsF S) ++ (rowC ck 36 (na 2) (slZ S N i.toNat) ++ (parkC ck a S)))) _ := va_P_eq (by rw [hCe]) hP
    have hD : va_D A (nobjC na ++ (rowC ck 36 (na 1) (nsF S) ++ (rowC ck 36 (na 2) (slZ S N i.toNat) ++ (parkC ck a S)))) := va_D_eq (by rw [hCe]) hD
    have hCe : (slZ S N (S 0 1).toNat) = (slZ S N i.toNat) := (by rw [show i = S 0 1 by omega])
    have hP : va_P dg vwCl (nobjC na ++ (rowC ck 36 (na 1) (nsF S) ++ (rowC ck 36 (na 2) (slZ S N (S 0 1).toNat) ++ (parkC ck a S)))) _ := va_P_eq (by rw [hCe]) hP
    have hD : va_D A (nobjC na ++ (rowC ck 36 (na 1) (nsF S) ++ (rowC ck 36 (na 2) (slZ S N (S 0 1).toNat) ++ (parkC ck a S)))) := va_D_eq (by rw [hCe]) hD
    have hEq : nobjC na ++ (rowC ck 36 (na 1) (nsF S) ++ (rowC ck 36 (na 2) (slZ S N (S 0 1).toNat) ++ (parkC ck a S))) = nobjC na ++ (rowC ck 36 (na 1) (nsF S) ++ (rowC ck 36 (na 2) (slZ S N (S 0 1).toNat) ++ (parkC ck a S))) := rfl
    exact W.vret hx hb hr (fun t9 ht9 hW9 => ⟨⟨(), rfl, trivial, by rw [ht9, hEq]; exact hP, by rw [hEq, hAe]; exact hD⟩, hS.F ht9⟩) hS.2.2 dX4_spreadAll_65
  · refine lv_aload_n hx hb dX4_spreadAll_18 rfl (lv_at hl 1 rfl) ?_
    refine va_get (D := dg) (ci := 9) (v := .ref (a 7)) (C := RX6) (T := TX6) (N := 10) hx hb htg inG_X6 hown hK hP 3 rfl rfl 8 (Nat.le_of_ble_eq_true rfl) (htg _ wq_76) (fun _ h9 => h9) rfl dX4_spreadAll_19 ?_
    refine lv_iload_n hx hb dX4_spreadAll_22 rfl (lv_at hl 2 rfl) ?_
    refine x_zald hx hb hK hP 10 1 (S 10) rfl rfl (fun _ => rfl) (P := fun y => 0 ≤ y ∧ y ≤ 1) b10 (by decide) (by omega) dX4_spreadAll_23 (fun g23 => ?_)
    refine x_if_eq (tgt := 59) hx hb dX4_spreadAll_24 (by decide) (by omega) (fun c24 => ?_) (fun c24 => ?_)
    · have hCe : (nzF S (i + 1).toNat) = (nzF S i.toNat) := (by first | exact (nzF_n (by omega) (by omega)).symm | exact (nzF_s (by omega) (by omega) (by omega)).symm)
      have hP : va_P dg vwCl (nobjC na ++ (rowC ck 36 (na 1) (nzF S (i + 1).toNat) ++ (rowC ck 36 (na 2) (slZ S N i.toNat) ++ (parkC ck a S)))) _ := va_P_eq (by rw [hCe]) hP
      have hD : va_D A (nobjC na ++ (rowC ck 36 (na 1) (nzF S (i + 1).toNat) ++ (rowC ck 36 (na 2) (slZ S N i.toNat) ++ (parkC ck a S)))) := va_D_eq (by rw [hCe]) hD
      have hCe : (slZ S N (i + 1).toNat) = (slZ S N i.toNat) := (by rw [slZ_s (by omega)]; first | rw [if_neg (by omega)] | rw [if_pos (by omega)])
      have hP : va_P dg vwCl (nobjC na ++ (rowC ck 36 (na 1) (nzF S (i + 1).toNat) ++ (rowC ck 36 (na 2) (slZ S N (i + 1).toNat) ++ (parkC ck a S)))) _ := va_P_eq (by rw [hCe]) hP
      have hD : va_D A (nobjC na ++ (rowC ck 36 (na 1) (nzF S (i + 1).toNat) ++ (rowC ck 36 (na 2) (slZ S N (i + 1).toNat) ++ (parkC ck a S)))) := va_D_eq (by rw [hCe]) hD
      refine lv_iinc (v := zI (i + 1)) (lv' := [(2, .int (zI (i + 1))), (0, .ref (na 0)), (1, .ref (a 0))]) hx hb dX4_spreadAll_59 hl (k := 2) rfl (zI_add _ _) (by decide) rfl (fun ls hl => ?_)
      refine lv_goto (tgt := 10) hx hb dX4_spreadAll_62 (by decide) ?_
      exact ih_10 ((i + 1)) (show 0 ≤ (i + 1) ∧ (i + 1) ≤ S 0 1 from (by omega)) (show (S 0 1 - (i + 1)).toNat < (S 0 1 - i).toNat from by omega) ls H locs (lv_sub hl [1, 2, 0] rfl) hP hD hS
    · refine lv_aload_n hx hb dX4_spreadAll_27 rfl (lv_at hl 1 rfl) ?_
      refine va_get (D := dg) (ci := 9) (v := .ref (a 4)) (C := RX6) (T := TX6) (N := 10) hx hb htg inG_X6 hown hK hP 3 rfl rfl 5 (Nat.le_of_ble_eq_true rfl) (htg _ wq_69) (fun _ h9 => h9) rfl dX4_spreadAll_28 ?_
      refine lv_iload_n hx hb dX4_spreadAll_31 rfl (lv_at hl 2 rfl) ?_
      refine x_iald hx hb hK hP 7 0 (S 7) rfl rfl (fun _ => rfl) (P := fun y => 0 ≤ y ∧ y ≤ 5) b7 (by decide) (by omega) dX4_spreadAll_32 (fun g32 => ?_)
      refine x_bipush hx hb dX4_spreadAll_33 (by decide) ?_
      refine x_imul hx hb dX4_spreadAll_35 ?_
      refine lv_aload_n hx hb dX4_spreadAll_36 rfl (lv_at hl 1 rfl) ?_
      refine va_get (D := dg) (ci := 9) (v := .ref (a 5)) (C := RX6) (T := TX6) (N := 10) hx hb htg inG_X6 hown hK hP 3 rfl rfl 6 (Nat.le_of_ble_eq_true rfl) (htg _ wq_71) (fun _ h9 => h9) rfl dX4_spreadAll_37 ?_
      refine lv_iload_n hx hb dX4_spreadAll_40 rfl (lv_at hl 2 rfl) ?_
      refine x_iald hx hb hK hP 8 0 (S 8) rfl rfl (fun _ => rfl) (P := fun y => 0 ≤ y ∧ y ≤ 5) b8 (by decide) (by omega) dX4_spreadAll_41 (fun g41 => ?_)
      refine x_iadd hx hb dX4_spreadAll_42 ?_
      refine lv_istore_n (lv' := [(3, .int (zI (((S 7 i) * 6) + (S 8 i)))), (0, .ref (na 0)), (1, .ref (a 0)), (2, .int (zI i))]) hx hb dX4_spreadAll_43 rfl hl (by decide) rfl (fun ls hl => ?_)
      refine lv_aload_n hx hb dX4_spreadAll_44 rfl (lv_at hl 1 rfl) ?_
      refine lv_iload_n hx hb dX4_spreadAll_45 rfl (lv_at hl 0 rfl) ?_
      refine lv_aload_n hx hb dX4_spreadAll_46 rfl (lv_at hl 2 rfl) ?_
      refine va_get (D := dg) (ci := 9) (v := .ref (a 6)) (C := RX6) (T := TX6) (N := 10) hx hb htg inG_X6 hown hK hP 3 rfl rfl 7 (Nat.le_of_ble_eq_true rfl) (htg _ wq_73) (fun _ h9 => h9) rfl dX4_spreadAll_47 ?_
      refine lv_iload_n hx hb dX4_spreadAll_50 rfl (lv_at hl 3 rfl) ?_
      refine x_iald hx hb hK hP 9 0 (S 9) rfl rfl (fun _ => rfl) (P := fun y => 0 ≤ y ∧ y ≤ 9) b9 (by decide) (by omega) dX4_spreadAll_51 (fun g51 => ?_)
      refine x_callvB (ws' := nobjC na ++ (rowC ck 36 (na 1) (nzF S i.toNat) ++ (rowC ck 36 (na 2) (sdF (((S 7 i) * 6) + (S 8 i)) (S 9 i)) ++ (parkC ck a S)))) (M := nobjC na ++ (rowC ck 36 (na 2) (slZ S N i.toNat))) (M' := nobjC na ++ (rowC ck 36 (na 2) (sdF (((S 7 i) * 6) + (S 8 i)) (S 9 i)))) (N := rowC ck 36 (na 1) (nzF S i.toNat) ++ (parkC ck a S)) (cat_perm [nobjC na, rowC ck 36 (na 1) (nzF S i.toNat), rowC ck 36 (na 2) (slZ S N i.toNat), parkC ck a S] [0, 2] [1, 3] 4 rfl (by decide)) (cat_perm [nobjC na, rowC ck 36 (na 1) (nzF S i.toNat), rowC ck 36 (na 2) (sdF (((S 7 i) * 6) + (S 8 i)) (S 9 i)), parkC ck a S] [0, 2] [1, 3] 4 rfl (by decide)) hP hD hS hA (fun hPm hDm => va_runV (As := [.int (zI (((S 7 i) * 6) + (S 8 i))), .int (zI (S 9 i))]) (rest := []) ⟨hx, hb, hml, hown, htg⟩ (c_spreadFrom l dg ck na (slZ S N i.toNat) (((S 7 i) * 6) + (S 8 i)) (S 9 i) _ (by omega) (by omega)) (cwV 2 htg (gwV wq_1435 wq_1437 wp_24 wq_7 wq_1438) rfl rfl rfl (by decide +kernel) ⟨Nat.le_of_ble_eq_true rfl, Nat.le_of_ble_eq_true rfl⟩) (wr_preV hK hPm hDm 0 7 rfl rfl) rfl rfl hl.1 rfl (lv_room (Nat.le_of_ble_eq_true rfl)) dX4_spreadAll_52 ⟨Nat.zero_le _, Nat.zero_le _⟩) (fun H locs hP hD hS => ?_)
      refine lv_aload_n hx hb dX4_spreadAll_55 rfl (lv_at hl 1 rfl) ?_
      refine x_callv (ws' := nobjC na ++ (rowC ck 36 (na 1) (adZ (nzF S i.toNat) (sdF (((S 7 i) * 6) + (S 8 i)) (S 9 i))) ++ (rowC ck 36 (na 2) (sdF (((S 7 i) * 6) + (S 8 i)) (S 9 i)) ++ (parkC ck a S)))) [] (M := nobjC na ++ (rowC ck 36 (na 1) (nzF S i.toNat) ++ (rowC ck 36 (na 2) (sdF (((S 7 i) * 6) + (S 8 i)) (S 9 i))))) (M' := nobjC na ++ (rowC ck 36 (na 1) (adZ (nzF S i.toNat) (sdF (((S 7 i) * 6) + (S 8 i)) (S 9 i))) ++ (rowC ck 36 (na 2) (sdF (((S 7 i) * 6) + (S 8 i)) (S 9 i))))) (parkC ck a S) (by simp only [List.append_assoc, List.nil_append]) (by simp only [List.append_assoc, List.nil_append]) hP hD hS hA (fun hPm hDm => va_runV (As := []) (rest := []) ⟨hx, hb, hml, hown, htg⟩ (c_addSound l dg ck na (nzF S i.toNat) (sdF (((S 7 i) * 6) + (S 8 i)) (S 9 i)) _ ) (cwV 0 htg (gwV wq_1448 wq_1450 wp_27 wq_7 wq_1451) rfl rfl rfl (by decide +kernel) ⟨Nat.le_of_ble_eq_true rfl, Nat.le_of_ble_eq_true rfl⟩) (wr_preV hK hPm hDm 0 7 rfl rfl) rfl rfl hl.1 rfl (lv_room (Nat.le_of_ble_eq_true rfl)) dX4_spreadAll_56 ⟨Nat.zero_le _, Nat.zero_le _⟩) (fun H locs hP hD hS => ?_)
      have hCe : (nzF S (i + 1).toNat) = (adZ (nzF S i.toNat) (sdF (((S 7 i) * 6) + (S 8 i)) (S 9 i))) := (by first | exact (nzF_n (by omega) (by omega)).symm | exact (nzF_s (by omega) (by omega) (by omega)).symm)
      have hP : va_P dg vwCl (nobjC na ++ (rowC ck 36 (na 1) (nzF S (i + 1).toNat) ++ (rowC ck 36 (na 2) (sdF (((S 7 i) * 6) + (S 8 i)) (S 9 i)) ++ (parkC ck a S)))) _ := va_P_eq (by rw [hCe]) hP
      have hD : va_D A (nobjC na ++ (rowC ck 36 (na 1) (nzF S (i + 1).toNat) ++ (rowC ck 36 (na 2) (sdF (((S 7 i) * 6) + (S 8 i)) (S 9 i)) ++ (parkC ck a S)))) := va_D_eq (by rw [hCe]) hD
      have hCe : (slZ S N (i + 1).toNat) = (sdF (((S 7 i) * 6) + (S 8 i)) (S 9 i)) := (by rw [slZ_s (by omega)]; first | rw [if_neg (by omega)] | rw [if_pos (by omega)])
      have hP : va_P dg vwCl (nobjC na ++ (rowC ck 36 (na 1) (nzF S (i + 1).toNat) ++ (rowC ck 36 (na 2) (slZ S N (i + 1).toNat) ++ (parkC ck a S)))) _ := va_P_eq (by rw [hCe]) hP
      have hD : va_D A (nobjC na ++ (rowC ck 36 (na 1) (nzF S (i + 1).toNat) ++ (rowC ck 36 (na 2) (slZ S N (i + 1).toNat) ++ (parkC ck a S)))) := va_D_eq (by rw [hCe]) hD
      refine lv_iinc (v := zI (i + 1)) (lv' := [(2, .int (zI (i + 1))), (3, .int (zI (((S 7 i) * 6) + (S 8 i)))), (0, .ref (na 0)), (1, .ref (a 0))]) hx hb dX4_spreadAll_59 hl (k := 3) rfl (zI_add _ _) (by decide) rfl (fun ls hl => ?_)
      refine lv_goto (tgt := 10) hx hb dX4_spreadAll_62 (by decide) ?_
      exact ih_10 ((i + 1)) (show 0 ≤ (i + 1) ∧ (i + 1) ≤ S 0 1 from (by omega)) (show (S 0 1 - (i + 1)).toNat < (S 0 1 - i).toNat from by omega) ls H locs (lv_sub hl [2, 3, 0] rfl) hP hD hS

set_option maxHeartbeats 4000000 in
set_option maxRecDepth 100000 in
/-- BenchBroker$Park.signAt -/
theorem c_signAt (l : Launch) (dg : va_G) (ck : Nat → ClassId) (a : Nat → Nat) (S : St) (x y : Int) (hI : Bd S) (rg_x : -2147483648 ≤ x ∧ x < 2147483648) (rg_y : -2147483648 ≤ y ∧ y < 2147483648) : Met l yX6_signAt (.code yX6_signAt cX6_signAt 4 (some .char) :: GW) ({ frames := 1, cells := 0, slots := 0, locals := 23 }) (va_Pc [.ref (a 0), .int (zI x), .int (zI y)] (rdP dg ck (parkC ck a S))) (vp_Si (fun r => r = zI (sgnZ S x y))) 0 0 (fun _ => False) := by
  refine Met.ofW (cc := cX6_signAt) (maxL := 4) (ret := (some .char)) (by decide) rfl ?_
  intro p e s m args below meth c s₁ B hml hv
  obtain ⟨rfl, hP, hK⟩ := hv
  have hx := B.exec
  have hb := B.bytes
  have hr := B.returns
  have hts := atoms_spec (ws := .code yX6_signAt cX6_signAt 4 (some .char) :: GW) B.pre
  have htg : ∀ w ∈ GW, w.before _ s = true := fun w h => hts w (List.mem_cons_of_mem _ h)
  have hown : s.vm.findClass RX6 = some m.cls := findClass_of_methodNamed B.named
  have hlocks := B.notSynchronized
  have hl := lv_entry ([.ref (a 0), .int (zI x), .int (zI y)]) (n := 4) (Nat.le_of_ble_eq_true rfl)
  rw [lg_entry_eq]
  generalize (lg_sl ([.ref (a 0), .int (zI x), .int (zI y)]) ++ List.replicate (4 - (lg_sl ([.ref (a 0), .int (zI x), .int (zI y)])).length) Slot.unset).toArray = ls at hl ⊢
  have hl : lv_has ls 4 [(0, .ref (a 0)), (1, .int (zI x)), (2, .int (zI y))] := hl
  obtain ⟨b00, b01, b02, b03, b1, b2, b3, b4, b5, b6, b7, b8, b9, b10, b11, b12⟩ := id hI
  have hhr := holder_r hI x y
  refine lv_aload_n hx hb dX6_signAt_0 rfl (lv_at hl 0 rfl) ?_
  refine lv_iload_n hx hb dX6_signAt_1 rfl (lv_at hl 1 rfl) ?_
  refine lv_iload_n hx hb dX6_signAt_2 rfl (lv_at hl 2 rfl) ?_
  refine vp_callSi (W.runV (As := [.int (zI x), .int (zI y)]) (rest := []) ⟨hx, hb, hml, hown, htg⟩ (c_holder l dg ck a S x y hI (by omega) (by omega)) (cwV 2 htg (gwV wq_680 wq_681 wq_682 wq_3 wq_683) rfl rfl rfl (by decide +kernel) ⟨Nat.le_of_ble_eq_true rfl, Nat.le_of_ble_eq_true rfl⟩) (rd_preV hK hP 0 9 rfl rfl) rfl rfl hl.1 rfl (lv_room (Nat.le_of_ble_eq_true rfl)) dX6_signAt_3 ⟨Nat.zero_le _, Nat.zero_le _⟩) (fun r3 hr3 => ?_)
  subst hr3
  refine lv_istore_n (lv' := [(3, .int (zI (holder S x y))), (0, .ref (a 0)), (1, .int (zI x)), (2, .int (zI y))]) hx hb dX6_signAt_6 rfl hl (by decide) rfl (fun ls hl => ?_)
  refine lv_iload_n hx hb dX6_signAt_7 rfl (lv_at hl 0 rfl) ?_
  refine x_iconst hx hb dX6_signAt_8 ?_
  refine x_icmp_ne (tgt := 15) hx hb dX6_signAt_9 (by decide) (by omega) (by omega) (fun c9 => ?_) (fun c9 => ?_)
  · refine lv_iload_n hx hb dX6_signAt_15 rfl (lv_at hl 0 rfl) ?_
    refine x_bipush hx hb dX6_signAt_16 (by decide) ?_
    refine x_icmp_ge (tgt := 27) hx hb dX6_signAt_18 (by decide) (by omega) (by omega) (fun c18 => ?_) (fun c18 => ?_)
    · refine lv_aload_n hx hb dX6_signAt_27 rfl (lv_at hl 1 rfl) ?_
      refine va_get (D := dg) (ci := 9) (v := .ref (a 7)) (C := RX6) (T := TX6) (N := 10) hx hb htg inG_X6 hown hK hP 0 rfl rfl 8 (Nat.le_of_ble_eq_true rfl) (htg _ wq_75) (fun _ h9 => h9) rfl dX6_signAt_28 ?_
      refine lv_iload_n hx hb dX6_signAt_31 rfl (lv_at hl 0 rfl) ?_
      refine x_bipush hx hb dX6_signAt_32 (by decide) ?_
      refine x_isub hx hb dX6_signAt_34 ?_
      refine x_zald hx hb hK hP 7 1 (S 10) rfl rfl (fun _ => rfl) (P := fun y => 0 ≤ y ∧ y ≤ 1) b10 (by decide) (by omega) dX6_signAt_35 (fun g35 => ?_)
      refine x_if_eq (tgt := 44) hx hb dX6_signAt_36 (by decide) (by omega) (fun c36 => ?_) (fun c36 => ?_)
      · refine x_bipush hx hb dX6_signAt_44 (by decide) ?_
        exact W.zret (v := _) hx hb hr (by first | rfl | exact narC (by omega)) (fun t9 ht9 hW9 => ⟨_, rfl, (congrArg zI (by unfold sgnZ; (repeat (first | rw [if_pos (by omega)] | rw [if_neg (by omega)])) <;> (try omega))), ht9⟩) (fun _ h => by cases h) dX6_signAt_46
      · refine x_bipush hx hb dX6_signAt_39 (by decide) ?_
        refine lv_goto (tgt := 46) hx hb dX6_signAt_41 (by decide) ?_
        exact W.zret (v := _) hx hb hr (by first | rfl | exact narC (by omega)) (fun t9 ht9 hW9 => ⟨_, rfl, (congrArg zI (by unfold sgnZ; (repeat (first | rw [if_pos (by omega)] | rw [if_neg (by omega)])) <;> (try omega))), ht9⟩) (fun _ h => by cases h) dX6_signAt_46
    · refine x_bipush hx hb dX6_signAt_21 (by decide) ?_
      refine lv_iload_n hx hb dX6_signAt_23 rfl (lv_at hl 0 rfl) ?_
      refine x_iadd hx hb dX6_signAt_24 ?_
      refine x_i2c hx hb dX6_signAt_25 (by omega) ?_
      exact W.zret (v := _) hx hb hr (by first | rfl | exact narC (by omega)) (fun t9 ht9 hW9 => ⟨_, rfl, (congrArg zI (by unfold sgnZ; (repeat (first | rw [if_pos (by omega)] | rw [if_neg (by omega)])) <;> (try omega))), ht9⟩) (fun _ h => by cases h) dX6_signAt_26
  · refine x_bipush hx hb dX6_signAt_12 (by decide) ?_
    exact W.zret (v := _) hx hb hr (by first | rfl | exact narC (by omega)) (fun t9 ht9 hW9 => ⟨_, rfl, (congrArg zI (by unfold sgnZ; (repeat (first | rw [if_pos (by omega)] | rw [if_neg (by omega)])) <;> (try omega))), ht9⟩) (fun _ h => by cases h) dX6_signAt_14
