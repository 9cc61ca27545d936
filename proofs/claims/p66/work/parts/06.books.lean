/-! Books: what it answers -/
theorem nar_b (P : Prop) [Decidable P] : narrow .boolean (.int (zI (bI P))) = .int (zI (bI P)) := by
  unfold bI; split <;> rfl
theorem bI_x (P : Prop) [Decidable P] : (bI P = 1 ∧ P) ∨ (bI P = 0 ∧ ¬ P) := by
  by_cases h : P
  · exact Or.inl ⟨bI_t h, h⟩
  · exact Or.inr ⟨bI_f h, h⟩
abbrev isTen (S : St) (t : Int) : Prop := 0 ≤ t ∧ t < S 0 2
abbrev isTerm (m : Int) : Prop := 1 ≤ m ∧ m ≤ 12
def lb (S : St) (t : Int) : Int := scan (fun i => S 4 i - 1 = t) (S 0 0 - 0).toNat 0
theorem lb_r {S : St} (hI : Bd S) (t : Int) : -1 ≤ lb S t ∧ lb S t < S 0 0 ∧ lb S t ≤ 9 ∧ (lb S t ≠ -1 → S 4 (lb S t) - 1 = t) := by
  have h0 := hI.1
  rcases scan_r (p := fun i => S 4 i - 1 = t) (S 0 0 - 0).toNat 0 (by omega) with h | ⟨h1, h2, h3⟩
  · unfold lb; omega
  · exact ⟨by unfold lb; omega, by unfold lb; omega, by unfold lb; omega, fun _ => h3⟩
theorem scan_n {p : Int → Prop} [DecidablePred p] : ∀ (n : Nat) (i j : Int), i ≤ j → j < i + n → p j → scan p n i ≠ -1 ∨ i < 0
  | 0, i, j, h1, h2, _ => by omega
  | n + 1, i, j, h1, h2, h3 => by
    unfold scan
    split
    · omega
    · rename_i h
      have hj : j ≠ i := fun e => h (e ▸ h3)
      rcases scan_n (p := p) n (i + 1) j (by omega) (by omega) h3 with h | h
      · exact Or.inl h
      · omega
theorem lb_of {S : St} (hU : ∀ b b', S 4 b = S 4 b' → S 4 b ≠ 0 → b = b') {i : Int} (h0 : 0 ≤ i ∧ i < S 0 0) (h : S 4 i ≠ 0) : lb S (S 4 i - 1) = i := by
  have h1 := scan_n (p := fun j => S 4 j - 1 = S 4 i - 1) (S 0 0 - 0).toNat 0 i h0.1 (by omega) rfl
  rcases scan_r (p := fun j => S 4 j - 1 = S 4 i - 1) (S 0 0 - 0).toNat 0 (by omega) with h2 | ⟨h3, h4, h5⟩
  · omega
  · exact (hU i (lb S (S 4 i - 1)) (by have h6 : S 4 (lb S (S 4 i - 1)) - 1 = S 4 i - 1 := h5; omega) h).symm
def obst (S : St) (t b : Int) : Int := if 3 ≤ S 12 t then 5 else if lb S t ≠ -1 then 6 else if S 4 b ≠ 0 then 7 else if ¬ quietB S b then 8 else if S 11 t < rent S b then 9 else 0
def obsD (S : St) (c t b : Int) : Int := if c = 6 then lb S t else if c = 7 then S 4 b - 1 else if c = 8 then noiseB S b else if c = 9 then S 11 t else t
theorem obst_r (S : St) (t b : Int) : 0 ≤ obst S t b ∧ obst S t b ≤ 9 := by
  unfold obst
  split
  · omega
  · split
    · omega
    · split
      · omega
      · split
        · omega
        · split <;> omega
def chB (S : St) (t : Int) : Nat → Int
  | 0 => -1
  | n + 1 => if obst S t n = 0 ∧ (chB S t n = -1 ∨ rent S n < rent S (chB S t n)) then n else chB S t n
theorem chB_r (S : St) (t : Int) : ∀ n : Nat, -1 ≤ chB S t n ∧ chB S t n < n
  | 0 => by unfold chB; omega
  | n + 1 => by
    have h := chB_r S t n
    unfold chB
    split <;> omega
theorem chB_s {S : St} {t i : Int} (h : 0 ≤ i) : chB S t (i + 1).toNat = if obst S t i = 0 ∧ (chB S t i.toNat = -1 ∨ rent S i < rent S (chB S t i.toNat)) then i else chB S t i.toNat := by
  rw [show (i + 1).toNat = i.toNat + 1 by omega]
  show (if obst S t (i.toNat : Int) = 0 ∧ (chB S t i.toNat = -1 ∨ rent S (i.toNat : Int) < rent S (chB S t i.toNat)) then (i.toNat : Int) else chB S t i.toNat) = _
  rw [Int.toNat_of_nonneg h]
def sumZ (f : Int → Int) : Nat → Int
  | 0 => 0
  | n + 1 => sumZ f n + f n
theorem sumZ_s {f : Int → Int} {i : Int} (h : 0 ≤ i) : sumZ f (i + 1).toNat = sumZ f i.toNat + f i := by
  rw [show (i + 1).toNat = i.toNat + 1 by omega]
  show _ + f (i.toNat : Int) = _
  rw [Int.toNat_of_nonneg h]
theorem sumZ_r {f : Int → Int} {M : Int} (hf : ∀ i, 0 ≤ f i ∧ f i ≤ M) : ∀ n : Nat, 0 ≤ sumZ f n ∧ sumZ f n ≤ n * M
  | 0 => by show (0 : Int) ≤ 0 ∧ (0 : Int) ≤ _; omega
  | n + 1 => by
    have h := sumZ_r hf n
    have h2 := hf n
    show 0 ≤ sumZ f n + f n ∧ sumZ f n + f n ≤ ((n + 1 : Nat) : Int) * M
    have h3 : ((n + 1 : Nat) : Int) * M = n * M + M := by rw [Int.natCast_add, Int.add_mul]; simp
    omega
def payable (S : St) (b : Int) : Int := S 11 (S 4 b - 1) / rent S b
def incF (S : St) (b m : Int) : Int := if payable S b < m then payable S b * rent S b + S 5 b else m * rent S b
def incB (S : St) (m b : Int) : Int := if S 4 b ≠ 0 ∧ quietB S b then incF S b (if m ≤ S 6 b then m else S 6 b) else 0
def leaseInc (S : St) (m : Int) : Int := sumZ (incB S m) (S 0 0).toNat
def deps (S : St) : Int := sumZ (S 5) (S 0 0).toNat
def coinsA (S : St) : Int := deps S + S 0 5 + sumZ (S 11) (S 0 2).toNat
abbrev bFirst (S : St) (x y : Int) : Prop := rent S x < rent S y ∨ (rent S x = rent S y ∧ ((S 4 x = 0 ∧ S 4 y ≠ 0) ∨ ((S 4 x = 0 ↔ S 4 y = 0) ∧ x < y)))
abbrev tFirst (S : St) (x y : Int) : Prop := S 11 y < S 11 x ∨ (S 11 x = S 11 y ∧ (S 12 x < S 12 y ∨ (S 12 x = S 12 y ∧ x < y)))
def bAhead (S : St) (b : Int) : Int := sumZ (fun o => bI (bFirst S o b)) (S 0 0).toNat
def tAhead (S : St) (t : Int) : Int := sumZ (fun o => bI (tFirst S o t)) (S 0 2).toNat

set_option maxHeartbeats 4000000 in
set_option maxRecDepth 100000 in
/-- BenchBroker$Books.isTerm -/
theorem c_isTerm (l : Launch) (dg : va_G) (ck : Nat → ClassId) (x : Int) (rg_x : -2147483648 ≤ x ∧ x < 2147483648) : Met l yX1_isTerm (.code yX1_isTerm cX1_isTerm 1 (some .boolean) :: GW) ({ frames := 0, cells := 0, slots := 0, locals := 0 }) (va_Pc [.int (zI x)] (rdP dg ck ([]))) (vp_Si (fun r => r = zI (bI (isTerm x)))) 0 0 (fun _ => False) := by
  refine Met.ofW (cc := cX1_isTerm) (maxL := 1) (ret := (some .boolean)) (by decide) rfl ?_
  intro p e s m args below meth c s₁ B hml hv
  obtain ⟨rfl, hP, hK⟩ := hv
  have hx := B.exec
  have hb := B.bytes
  have hr := B.returns
  have hts := atoms_spec (ws := .code yX1_isTerm cX1_isTerm 1 (some .boolean) :: GW) B.pre
  have htg : ∀ w ∈ GW, w.before _ s = true := fun w h => hts w (List.mem_cons_of_mem _ h)
  have hown : s.vm.findClass RX1 = some m.cls := findClass_of_methodNamed B.named
  have hlocks := B.notSynchronized
  have hl := lv_entry ([.int (zI x)]) (n := 1) (Nat.le_of_ble_eq_true rfl)
  rw [lg_entry_eq]
  generalize (lg_sl ([.int (zI x)]) ++ List.replicate (1 - (lg_sl ([.int (zI x)])).length) Slot.unset).toArray = ls at hl ⊢
  have hl : lv_has ls 1 [(0, .int (zI x))] := hl
  refine lv_iload_n hx hb dX1_isTerm_0 rfl (lv_at hl 0 rfl) ?_
  refine x_iconst hx hb dX1_isTerm_1 ?_
  refine x_icmp_lt (tgt := 15) hx hb dX1_isTerm_2 (by decide) (by omega) (by omega) (fun c2 => ?_) (fun c2 => ?_)
  · refine x_iconst hx hb dX1_isTerm_15 ?_
    exact W.zret (v := _) hx hb hr (by first | rfl | rfl) (fun t9 ht9 hW9 => ⟨_, rfl, (congrArg zI (by first | exact (bI_t (by omega)).symm | exact (bI_f (by omega)).symm)), ht9⟩) (fun _ h => by cases h) dX1_isTerm_16
  · refine lv_iload_n hx hb dX1_isTerm_5 rfl (lv_at hl 0 rfl) ?_
    refine x_bipush hx hb dX1_isTerm_6 (by decide) ?_
    refine x_icmp_gt (tgt := 15) hx hb dX1_isTerm_8 (by decide) (by omega) (by omega) (fun c8 => ?_) (fun c8 => ?_)
    · refine x_iconst hx hb dX1_isTerm_15 ?_
      exact W.zret (v := _) hx hb hr (by first | rfl | rfl) (fun t9 ht9 hW9 => ⟨_, rfl, (congrArg zI (by first | exact (bI_t (by omega)).symm | exact (bI_f (by omega)).symm)), ht9⟩) (fun _ h => by cases h) dX1_isTerm_16
    · refine x_iconst hx hb dX1_isTerm_11 ?_
      refine lv_goto (tgt := 16) hx hb dX1_isTerm_12 (by decide) ?_
      exact W.zret (v := _) hx hb hr (by first | rfl | rfl) (fun t9 ht9 hW9 => ⟨_, rfl, (congrArg zI (by first | exact (bI_t (by omega)).symm | exact (bI_f (by omega)).symm)), ht9⟩) (fun _ h => by cases h) dX1_isTerm_16

set_option maxHeartbeats 4000000 in
set_option maxRecDepth 100000 in
/-- BenchBroker$Books.hasTenant -/
theorem c_hasTenant (l : Launch) (dg : va_G) (ck : Nat → ClassId) (a : Nat → Nat) (S : St) (x : Int) (hI : Bd S) (rg_x : -2147483648 ≤ x ∧ x < 2147483648) : Met l yX1_hasTenant (.code yX1_hasTenant cX1_hasTenant 2 (some .boolean) :: GW) ({ frames := 0, cells := 0, slots := 0, locals := 0 }) (va_Pc [.ref (a 0), .int (zI x)] (rdP dg ck (booksC ck a S))) (vp_Si (fun r => r = zI (bI (isTen S x)))) 0 0 (fun _ => False) := by
  refine Met.ofW (cc := cX1_hasTenant) (maxL := 2) (ret := (some .boolean)) (by decide) rfl ?_
  intro p e s m args below meth c s₁ B hml hv
  obtain ⟨rfl, hP, hK⟩ := hv
  have hx := B.exec
  have hb := B.bytes
  have hr := B.returns
  have hts := atoms_spec (ws := .code yX1_hasTenant cX1_hasTenant 2 (some .boolean) :: GW) B.pre
  have htg : ∀ w ∈ GW, w.before _ s = true := fun w h => hts w (List.mem_cons_of_mem _ h)
  have hown : s.vm.findClass RX1 = some m.cls := findClass_of_methodNamed B.named
  have hlocks := B.notSynchronized
  have hl := lv_entry ([.ref (a 0), .int (zI x)]) (n := 2) (Nat.le_of_ble_eq_true rfl)
  rw [lg_entry_eq]
  generalize (lg_sl ([.ref (a 0), .int (zI x)]) ++ List.replicate (2 - (lg_sl ([.ref (a 0), .int (zI x)])).length) Slot.unset).toArray = ls at hl ⊢
  have hl : lv_has ls 2 [(0, .ref (a 0)), (1, .int (zI x))] := hl
  obtain ⟨b00, b01, b02, b03, b1, b2, b3, b4, b5, b6, b7, b8, b9, b10, b11, b12⟩ := id hI
  refine lv_iload_n hx hb dX1_hasTenant_0 rfl (lv_at hl 1 rfl) ?_
  refine x_if_lt (tgt := 16) hx hb dX1_hasTenant_1 (by decide) (by omega) (fun c1 => ?_) (fun c1 => ?_)
  · refine x_iconst hx hb dX1_hasTenant_16 ?_
    exact W.zret (v := _) hx hb hr (by first | rfl | rfl) (fun t9 ht9 hW9 => ⟨_, rfl, (congrArg zI (by first | exact (bI_t (by omega)).symm | exact (bI_f (by omega)).symm)), ht9⟩) (fun _ h => by cases h) dX1_hasTenant_17
  · refine lv_iload_n hx hb dX1_hasTenant_4 rfl (lv_at hl 1 rfl) ?_
    refine lv_aload_n hx hb dX1_hasTenant_5 rfl (lv_at hl 0 rfl) ?_
    refine va_get (D := dg) (ci := 4) (v := .int (zI (S 0 2))) (C := RX1) (T := TX1) (N := 13) hx hb htg inG_X1 hown hK hP 0 rfl rfl 1 (Nat.le_of_ble_eq_true rfl) (htg _ wq_108) (fun _ h9 => h9) rfl dX1_hasTenant_6 ?_
    refine x_icmp_ge (tgt := 16) hx hb dX1_hasTenant_9 (by decide) (by omega) (by omega) (fun c9 => ?_) (fun c9 => ?_)
    · refine x_iconst hx hb dX1_hasTenant_16 ?_
      exact W.zret (v := _) hx hb hr (by first | rfl | rfl) (fun t9 ht9 hW9 => ⟨_, rfl, (congrArg zI (by first | exact (bI_t (by omega)).symm | exact (bI_f (by omega)).symm)), ht9⟩) (fun _ h => by cases h) dX1_hasTenant_17
    · refine x_iconst hx hb dX1_hasTenant_12 ?_
      refine lv_goto (tgt := 17) hx hb dX1_hasTenant_13 (by decide) ?_
      exact W.zret (v := _) hx hb hr (by first | rfl | rfl) (fun t9 ht9 hW9 => ⟨_, rfl, (congrArg zI (by first | exact (bI_t (by omega)).symm | exact (bI_f (by omega)).symm)), ht9⟩) (fun _ h => by cases h) dX1_hasTenant_17

set_option maxHeartbeats 4000000 in
set_option maxRecDepth 100000 in
/-- BenchBroker$Books.leased -/
theorem c_leased (l : Launch) (dg : va_G) (ck : Nat → ClassId) (a : Nat → Nat) (S : St) (b : Int) (hI : Bd S) (hb0 : 0 ≤ b ∧ b < 10) : Met l yX1_leased (.code yX1_leased cX1_leased 2 (some .boolean) :: GW) ({ frames := 1, cells := 0, slots := 0, locals := 21 }) (va_Pc [.ref (a 0), .int (zI b)] (rdP dg ck (booksC ck a S))) (vp_Si (fun r => r = zI (bI (S 4 b ≠ 0)))) 0 0 (fun _ => False) := by
  refine Met.ofW (cc := cX1_leased) (maxL := 2) (ret := (some .boolean)) (by decide) rfl ?_
  intro p e s m args below meth c s₁ B hml hv
  obtain ⟨rfl, hP, hK⟩ := hv
  have hx := B.exec
  have hb := B.bytes
  have hr := B.returns
  have hts := atoms_spec (ws := .code yX1_leased cX1_leased 2 (some .boolean) :: GW) B.pre
  have htg : ∀ w ∈ GW, w.before _ s = true := fun w h => hts w (List.mem_cons_of_mem _ h)
  have hown : s.vm.findClass RX1 = some m.cls := findClass_of_methodNamed B.named
  have hlocks := B.notSynchronized
  have hl := lv_entry ([.ref (a 0), .int (zI b)]) (n := 2) (Nat.le_of_ble_eq_true rfl)
  rw [lg_entry_eq]
  generalize (lg_sl ([.ref (a 0), .int (zI b)]) ++ List.replicate (2 - (lg_sl ([.ref (a 0), .int (zI b)])).length) Slot.unset).toArray = ls at hl ⊢
  have hl : lv_has ls 2 [(0, .ref (a 0)), (1, .int (zI b))] := hl
  obtain ⟨b00, b01, b02, b03, b1, b2, b3, b4, b5, b6, b7, b8, b9, b10, b11, b12⟩ := id hI
  refine lv_aload_n hx hb dX1_leased_0 rfl (lv_at hl 0 rfl) ?_
  refine lv_aload_n hx hb dX1_leased_1 rfl (lv_at hl 0 rfl) ?_
  refine va_get (D := dg) (ci := 4) (v := .ref (a 3)) (C := RX1) (T := TX1) (N := 13) hx hb htg inG_X1 hown hK hP 0 rfl rfl 4 (Nat.le_of_ble_eq_true rfl) (htg _ wq_114) (fun _ h9 => h9) rfl dX1_leased_2 ?_
  refine lv_iload_n hx hb dX1_leased_5 rfl (lv_at hl 1 rfl) ?_
  refine x_iald hx hb hK hP 3 0 (fun i => S 4 i - 1) rfl rfl (fun _ => rfl) (P := fun y => -1 ≤ y ∧ y ≤ S 0 2 - 1) (fun i => by have := b4 i; omega) (by decide) (by omega) dX1_leased_6 (fun g6 => ?_)
  refine vp_callSi (W.runV (As := [.int (zI (S 4 b - 1))]) (rest := []) ⟨hx, hb, hml, hown, htg⟩ (c_hasTenant l dg ck a S (S 4 b - 1) hI (by omega)) (cwV 1 htg (gwV wq_519 wq_481 wq_482 wq_2 wq_483) rfl rfl rfl (by decide +kernel) ⟨Nat.le_of_ble_eq_true rfl, Nat.le_of_ble_eq_true rfl⟩) (rd_preV hK hP 0 4 rfl rfl) rfl rfl hl.1 rfl (lv_room (Nat.le_of_ble_eq_true rfl)) dX1_leased_7 ⟨Nat.zero_le _, Nat.zero_le _⟩) (fun r7 hr7 => ?_)
  subst hr7
  exact W.zret (v := _) hx hb hr (by first | rfl | exact nar_b _) (fun t9 ht9 hW9 => ⟨_, rfl, (congrArg zI (bI_c (by omega))), ht9⟩) (fun _ h => by cases h) dX1_leased_10

set_option maxHeartbeats 4000000 in
set_option maxRecDepth 100000 in
/-- BenchBroker$Books.leasedBench -/
theorem c_leasedBench (l : Launch) (dg : va_G) (ck : Nat → ClassId) (a : Nat → Nat) (S : St) (t : Int) (hI : Bd S) (rg_t : -2147483648 ≤ t ∧ t < 2147483648) : Met l yX1_leasedBench (.code yX1_leasedBench cX1_leasedBench 3 (some .int) :: GW) ({ frames := 0, cells := 0, slots := 0, locals := 0 }) (va_Pc [.ref (a 0), .int (zI t)] (rdP dg ck (booksC ck a S))) (vp_Si (fun r => r = zI (lb S t))) 0 0 (fun _ => False) := by
  refine Met.ofW (cc := cX1_leasedBench) (maxL := 3) (ret := (some .int)) (by decide) rfl ?_
  intro p e s m args below meth c s₁ B hml hv
  obtain ⟨rfl, hP, hK⟩ := hv
  have hx := B.exec
  have hb := B.bytes
  have hr := B.returns
  have hts := atoms_spec (ws := .code yX1_leasedBench cX1_leasedBench 3 (some .int) :: GW) B.pre
  have htg : ∀ w ∈ GW, w.before _ s = true := fun w h => hts w (List.mem_cons_of_mem _ h)
  have hown : s.vm.findClass RX1 = some m.cls := findClass_of_methodNamed B.named
  have hlocks := B.notSynchronized
  have hl := lv_entry ([.ref (a 0), .int (zI t)]) (n := 3) (Nat.le_of_ble_eq_true rfl)
  rw [lg_entry_eq]
  generalize (lg_sl ([.ref (a 0), .int (zI t)]) ++ List.replicate (3 - (lg_sl ([.ref (a 0), .int (zI t)])).length) Slot.unset).toArray = ls at hl ⊢
  have hl : lv_has ls 3 [(0, .ref (a 0)), (1, .int (zI t))] := hl
  obtain ⟨b00, b01, b02, b03, b1, b2, b3, b4, b5, b6, b7, b8, b9, b10, b11, b12⟩ := id hI
  refine x_iconst hx hb dX1_leasedBench_0 ?_
  refine lv_istore_n (lv' := [(2, .int (zI 0)), (0, .ref (a 0)), (1, .int (zI t))]) hx hb dX1_leasedBench_1 rfl hl (by decide) rfl (fun ls hl => ?_)
  refine x_loop (ι := Int) (fun v => (0 ≤ v ∧ v ≤ S 0 0) ∧ lb S t = scan (fun j => S 4 j - 1 = t) (S 0 0 - v).toNat v) (fun v => (S 0 0 - v).toNat) (fun v => [(0, .ref (a 0)), (1, .int (zI t)), (2, .int (zI v))]) (0) (show (0 ≤ (0 : Int) ∧ (0 : Int) ≤ S 0 0) ∧ lb S t = scan (fun j => S 4 j - 1 = t) (S 0 0 - (0 : Int)).toNat (0 : Int) from ⟨by omega, rfl⟩) (lv_sub hl [1, 2, 0] rfl) ?_
  intro v hv ih_2 ls hl
  obtain ⟨i, rfl⟩ : ∃ z : Int, z = v := ⟨_, rfl⟩
  have hl : lv_has ls 3 [(0, .ref (a 0)), (1, .int (zI t)), (2, .int (zI i))] := hl
  have hv : (0 ≤ i ∧ i ≤ S 0 0) ∧ lb S t = scan (fun j => S 4 j - 1 = t) (S 0 0 - i).toNat i := hv
  obtain ⟨hi, hB⟩ := hv
  refine lv_iload_n hx hb dX1_leasedBench_2 rfl (lv_at hl 2 rfl) ?_
  refine lv_aload_n hx hb dX1_leasedBench_3 rfl (lv_at hl 0 rfl) ?_
  refine va_get (D := dg) (ci := 4) (v := .ref (a 6)) (C := RX1) (T := TX1) (N := 13) hx hb htg inG_X1 hown hK hP 0 rfl rfl 0 (Nat.le_of_ble_eq_true rfl) (htg _ wq_106) (fun _ h9 => h9) rfl dX1_leasedBench_4 ?_
  refine va_get (D := dg) (ci := 9) (v := .int (zI (S 0 0))) (C := RX6) (T := TX6) (N := 10) hx hb htg inG_X6 hown hK hP 6 rfl rfl 0 (Nat.le_of_ble_eq_true rfl) (htg _ wq_55) (fun _ h9 => h9) rfl dX1_leasedBench_7 ?_
  refine x_icmp_ge (tgt := 31) hx hb dX1_leasedBench_10 (by decide) (by omega) (by omega) (fun c10 => ?_) (fun c10 => ?_)
  · refine x_iconst hx hb dX1_leasedBench_31 ?_
    exact W.iret (v := _) hx hb hr (fun t9 ht9 hW9 => ⟨_, rfl, (congrArg zI (by rw [hB]; exact (scan_e (by omega)).symm)), ht9⟩) (fun _ h => by cases h) dX1_leasedBench_32
  · refine lv_aload_n hx hb dX1_leasedBench_13 rfl (lv_at hl 0 rfl) ?_
    refine va_get (D := dg) (ci := 4) (v := .ref (a 3)) (C := RX1) (T := TX1) (N := 13) hx hb htg inG_X1 hown hK hP 0 rfl rfl 4 (Nat.le_of_ble_eq_true rfl) (htg _ wq_114) (fun _ h9 => h9) rfl dX1_leasedBench_14 ?_
    refine lv_iload_n hx hb dX1_leasedBench_17 rfl (lv_at hl 2 rfl) ?_
    refine x_iald hx hb hK hP 3 0 (fun i => S 4 i - 1) rfl rfl (fun _ => rfl) (P := fun y => -1 ≤ y ∧ y ≤ S 0 2 - 1) (fun i => by have := b4 i; omega) (by decide) (by omega) dX1_leasedBench_18 (fun g18 => ?_)
    refine lv_iload_n hx hb dX1_leasedBench_19 rfl (lv_at hl 1 rfl) ?_
    refine x_icmp_ne (tgt := 25) hx hb dX1_leasedBench_20 (by decide) (by omega) (by omega) (fun c20 => ?_) (fun c20 => ?_)
    · obtain ⟨v25, e_v25⟩ : ∃ y : Int, y = i + 1 := ⟨_, rfl⟩
      refine lv_iinc (v := zI v25) (lv' := [(2, .int (zI v25)), (0, .ref (a 0)), (1, .int (zI t))]) hx hb dX1_leasedBench_25 hl (k := 2) rfl (by rw [e_v25]; exact zI_add _ _) (by decide) rfl (fun ls hl => ?_)
      refine lv_goto (tgt := 2) hx hb dX1_leasedBench_28 (by decide) ?_
      exact ih_2 (v25) (show (0 ≤ v25 ∧ v25 ≤ S 0 0) ∧ lb S t = scan (fun j => S 4 j - 1 = t) (S 0 0 - v25).toNat v25 from ⟨by omega, by rw [hB, scan_s (by omega), if_neg (by omega), e_v25]⟩) (show (S 0 0 - v25).toNat < (S 0 0 - i).toNat from by omega) ls (lv_sub hl [1, 2, 0] rfl)
    · refine lv_iload_n hx hb dX1_leasedBench_23 rfl (lv_at hl 2 rfl) ?_
      exact W.iret (v := _) hx hb hr (fun t9 ht9 hW9 => ⟨_, rfl, (congrArg zI (by rw [hB, scan_s (by omega), if_pos (by omega)])), ht9⟩) (fun _ h => by cases h) dX1_leasedBench_24

set_option maxHeartbeats 4000000 in
set_option maxRecDepth 100000 in
/-- BenchBroker$Books.leaseObstacle -/
theorem c_leaseObstacle (l : Launch) (dg : va_G) (ck : Nat → ClassId) (a : Nat → Nat) (S : St) (t b : Int) (hI : Bd S) (ht0 : 0 ≤ t ∧ t < 8) (hb0 : 0 ≤ b ∧ b < 10) : Met l yX1_leaseObstacle (.code yX1_leaseObstacle cX1_leaseObstacle 3 (some .int) :: GW) ({ frames := 3, cells := 0, slots := 0, locals := 68 }) (va_Pc [.ref (a 0), .int (zI t), .int (zI b)] (rdP dg ck (booksC ck a S))) (vp_Si (fun r => r = zI (obst S t b))) 0 0 (fun _ => False) := by
  refine Met.ofW (cc := cX1_leaseObstacle) (maxL := 3) (ret := (some .int)) (by decide) rfl ?_
  intro p e s m args below meth c s₁ B hml hv
  obtain ⟨rfl, hP, hK⟩ := hv
  have hx := B.exec
  have hb := B.bytes
  have hr := B.returns
  have hts := atoms_spec (ws := .code yX1_leaseObstacle cX1_leaseObstacle 3 (some .int) :: GW) B.pre
  have htg : ∀ w ∈ GW, w.before _ s = true := fun w h => hts w (List.mem_cons_of_mem _ h)
  have hown : s.vm.findClass RX1 = some m.cls := findClass_of_methodNamed B.named
  have hlocks := B.notSynchronized
  have hl := lv_entry ([.ref (a 0), .int (zI t), .int (zI b)]) (n := 3) (Nat.le_of_ble_eq_true rfl)
  rw [lg_entry_eq]
  generalize (lg_sl ([.ref (a 0), .int (zI t), .int (zI b)]) ++ List.replicate (3 - (lg_sl ([.ref (a 0), .int (zI t), .int (zI b)])).length) Slot.unset).toArray = ls at hl ⊢
  have hl : lv_has ls 3 [(0, .ref (a 0)), (1, .int (zI t)), (2, .int (zI b))] := hl
  obtain ⟨b00, b01, b02, b03, b1, b2, b3, b4, b5, b6, b7, b8, b9, b10, b11, b12⟩ := id hI
  have hlb := lb_r hI t
  have hre := rent_r hI b
  refine lv_aload_n hx hb dX1_leaseObstacle_0 rfl (lv_at hl 0 rfl) ?_
  refine va_get (D := dg) (ci := 4) (v := .ref (a 2)) (C := RX1) (T := TX1) (N := 13) hx hb htg inG_X1 hown hK hP 0 rfl rfl 3 (Nat.le_of_ble_eq_true rfl) (htg _ wq_112) (fun _ h9 => h9) rfl dX1_leaseObstacle_1 ?_
  refine lv_iload_n hx hb dX1_leaseObstacle_4 rfl (lv_at hl 1 rfl) ?_
  refine x_iald hx hb hK hP 2 0 (S 12) rfl rfl (fun _ => rfl) (P := fun y => 0 ≤ y ∧ y ≤ 3) b12 (by decide) (by omega) dX1_leaseObstacle_5 (fun g5 => ?_)
  refine x_iconst hx hb dX1_leaseObstacle_6 ?_
  refine x_icmp_lt (tgt := 12) hx hb dX1_leaseObstacle_7 (by decide) (by omega) (by omega) (fun c7 => ?_) (fun c7 => ?_)
  · refine lv_aload_n hx hb dX1_leaseObstacle_12 rfl (lv_at hl 0 rfl) ?_
    refine lv_iload_n hx hb dX1_leaseObstacle_13 rfl (lv_at hl 1 rfl) ?_
    refine vp_callSi (W.runV (As := [.int (zI t)]) (rest := []) ⟨hx, hb, hml, hown, htg⟩ (c_leasedBench l dg ck a S t hI (by omega)) (cwV 1 htg (gwV wq_514 wq_485 wq_486 wq_2 wq_487) rfl rfl rfl (by decide +kernel) ⟨Nat.le_of_ble_eq_true rfl, Nat.le_of_ble_eq_true rfl⟩) (rd_preV hK hP 0 4 rfl rfl) rfl rfl hl.1 rfl (lv_room (Nat.le_of_ble_eq_true rfl)) dX1_leaseObstacle_14 ⟨Nat.zero_le _, Nat.zero_le _⟩) (fun r14 hr14 => ?_)
    subst hr14
    refine x_iconst hx hb dX1_leaseObstacle_17 ?_
    refine x_icmp_eq (tgt := 24) hx hb dX1_leaseObstacle_18 (by decide) (by omega) (by omega) (fun c18 => ?_) (fun c18 => ?_)
    · refine lv_aload_n hx hb dX1_leaseObstacle_24 rfl (lv_at hl 0 rfl) ?_
      refine lv_iload_n hx hb dX1_leaseObstacle_25 rfl (lv_at hl 2 rfl) ?_
      refine vp_callSi (W.runV (As := [.int (zI b)]) (rest := []) ⟨hx, hb, hml, hown, htg⟩ (c_leased l dg ck a S b hI (by omega)) (cwV 1 htg (gwV wq_515 wq_516 wq_517 wq_2 wq_518) rfl rfl rfl (by decide +kernel) ⟨Nat.le_of_ble_eq_true rfl, Nat.le_of_ble_eq_true rfl⟩) (rd_preV hK hP 0 4 rfl rfl) rfl rfl hl.1 rfl (lv_room (Nat.le_of_ble_eq_true rfl)) dX1_leaseObstacle_26 ⟨Nat.zero_le _, Nat.zero_le _⟩) (fun r26 hr26 => ?_)
      subst hr26
      refine x_bz_eq (tgt := 35) hx hb dX1_leaseObstacle_29 (by decide) (fun c29 => ?_) (fun c29 => ?_)
      · refine lv_aload_n hx hb dX1_leaseObstacle_35 rfl (lv_at hl 0 rfl) ?_
        refine va_get (D := dg) (ci := 4) (v := .ref (a 6)) (C := RX1) (T := TX1) (N := 13) hx hb htg inG_X1 hown hK hP 0 rfl rfl 0 (Nat.le_of_ble_eq_true rfl) (htg _ wq_106) (fun _ h9 => h9) rfl dX1_leaseObstacle_36 ?_
        refine lv_iload_n hx hb dX1_leaseObstacle_39 rfl (lv_at hl 2 rfl) ?_
        refine vp_callSi (W.runV (As := [.int (zI b)]) (rest := []) ⟨hx, hb, hml, hown, htg⟩ (c_quiet l dg ck (pa a) S b hI (by omega)) (cwV 1 htg (gwV wq_520 wq_521 wq_522 wq_3 wq_523) rfl rfl rfl (by decide +kernel) ⟨Nat.le_of_ble_eq_true rfl, Nat.le_of_ble_eq_true rfl⟩) (rd_preV hK (va_P_r (w1 := bookC ck a S) (w2 := parkC ck (pa a) S) hP) 0 9 rfl rfl) rfl rfl hl.1 rfl (lv_room (Nat.le_of_ble_eq_true rfl)) dX1_leaseObstacle_40 ⟨Nat.zero_le _, Nat.zero_le _⟩) (fun r40 hr40 => ?_)
        subst hr40
        refine x_bz_ne (tgt := 49) hx hb dX1_leaseObstacle_43 (by decide) (fun c43 => ?_) (fun c43 => ?_)
        · refine lv_aload_n hx hb dX1_leaseObstacle_49 rfl (lv_at hl 0 rfl) ?_
          refine va_get (D := dg) (ci := 4) (v := .ref (a 1)) (C := RX1) (T := TX1) (N := 13) hx hb htg inG_X1 hown hK hP 0 rfl rfl 2 (Nat.le_of_ble_eq_true rfl) (htg _ wq_110) (fun _ h9 => h9) rfl dX1_leaseObstacle_50 ?_
          refine lv_iload_n hx hb dX1_leaseObstacle_53 rfl (lv_at hl 1 rfl) ?_
          refine x_iald hx hb hK hP 1 0 (S 11) rfl rfl (fun _ => rfl) (P := fun y => 0 ≤ y ∧ y ≤ 4000000) b11 (by decide) (by omega) dX1_leaseObstacle_54 (fun g54 => ?_)
          refine lv_aload_n hx hb dX1_leaseObstacle_55 rfl (lv_at hl 0 rfl) ?_
          refine va_get (D := dg) (ci := 4) (v := .ref (a 6)) (C := RX1) (T := TX1) (N := 13) hx hb htg inG_X1 hown hK hP 0 rfl rfl 0 (Nat.le_of_ble_eq_true rfl) (htg _ wq_106) (fun _ h9 => h9) rfl dX1_leaseObstacle_56 ?_
          refine lv_iload_n hx hb dX1_leaseObstacle_59 rfl (lv_at hl 2 rfl) ?_
          refine vp_callSi (W.runV (As := [.int (zI b)]) (rest := [.int (zI (S 11 t))]) ⟨hx, hb, hml, hown, htg⟩ (c_rent l dg ck (pa a) S b hI (by omega)) (cwV 1 htg (gwV wq_524 wq_455 wq_456 wq_3 wq_457) rfl rfl rfl (by decide +kernel) ⟨Nat.le_of_ble_eq_true rfl, Nat.le_of_ble_eq_true rfl⟩) (rd_preV hK (va_P_r (w1 := bookC ck a S) (w2 := parkC ck (pa a) S) hP) 0 9 rfl rfl) rfl rfl hl.1 rfl (lv_room (Nat.le_of_ble_eq_true rfl)) dX1_leaseObstacle_60 ⟨Nat.zero_le _, Nat.zero_le _⟩) (fun r60 hr60 => ?_)
          subst hr60
          refine x_icmp_ge (tgt := 71) hx hb dX1_leaseObstacle_63 (by decide) (by omega) (by omega) (fun c63 => ?_) (fun c63 => ?_)
          · refine x_iconst hx hb dX1_leaseObstacle_71 ?_
            exact W.iret (v := _) hx hb hr (fun t9 ht9 hW9 => ⟨_, rfl, (congrArg zI (by unfold obst; repeat (first | rw [if_pos (by omega)] | rw [if_neg (by omega)]))), ht9⟩) (fun _ h => by cases h) dX1_leaseObstacle_72
          · refine x_bipush hx hb dX1_leaseObstacle_66 (by decide) ?_
            refine lv_goto (tgt := 72) hx hb dX1_leaseObstacle_68 (by decide) ?_
            exact W.iret (v := _) hx hb hr (fun t9 ht9 hW9 => ⟨_, rfl, (congrArg zI (by unfold obst; repeat (first | rw [if_pos (by omega)] | rw [if_neg (by omega)]))), ht9⟩) (fun _ h => by cases h) dX1_leaseObstacle_72
        · refine x_bipush hx hb dX1_leaseObstacle_46 (by decide) ?_
          exact W.iret (v := _) hx hb hr (fun t9 ht9 hW9 => ⟨_, rfl, (congrArg zI (by unfold obst; repeat (first | rw [if_pos (by omega)] | rw [if_neg (by omega)]))), ht9⟩) (fun _ h => by cases h) dX1_leaseObstacle_48
      · refine x_bipush hx hb dX1_leaseObstacle_32 (by decide) ?_
        exact W.iret (v := _) hx hb hr (fun t9 ht9 hW9 => ⟨_, rfl, (congrArg zI (by unfold obst; repeat (first | rw [if_pos (by omega)] | rw [if_neg (by omega)]))), ht9⟩) (fun _ h => by cases h) dX1_leaseObstacle_34
    · refine x_bipush hx hb dX1_leaseObstacle_21 (by decide) ?_
      exact W.iret (v := _) hx hb hr (fun t9 ht9 hW9 => ⟨_, rfl, (congrArg zI (by unfold obst; repeat (first | rw [if_pos (by omega)] | rw [if_neg (by omega)]))), ht9⟩) (fun _ h => by cases h) dX1_leaseObstacle_23
  · refine x_iconst hx hb dX1_leaseObstacle_10 ?_
    exact W.iret (v := _) hx hb hr (fun t9 ht9 hW9 => ⟨_, rfl, (congrArg zI (by unfold obst; repeat (first | rw [if_pos (by omega)] | rw [if_neg (by omega)]))), ht9⟩) (fun _ h => by cases h) dX1_leaseObstacle_11

set_option maxHeartbeats 4000000 in
set_option maxRecDepth 100000 in
/-- BenchBroker$Books.obstacleDetail -/
theorem c_obstacleDetail (l : Launch) (dg : va_G) (ck : Nat → ClassId) (a : Nat → Nat) (S : St) (cd t b : Int) (hI : Bd S) (rg_cd : -2147483648 ≤ cd ∧ cd < 2147483648) (ht0 : 0 ≤ t ∧ t < 8) (hb0 : 0 ≤ b ∧ b < 10) : Met l yX1_obstacleDetail (.code yX1_obstacleDetail cX1_obstacleDetail 4 (some .int) :: GW) ({ frames := 2, cells := 0, slots := 0, locals := 47 }) (va_Pc [.ref (a 0), .int (zI cd), .int (zI t), .int (zI b)] (rdP dg ck (booksC ck a S))) (vp_Si (fun r => r = zI (obsD S cd t b))) 0 0 (fun _ => False) := by
  refine Met.ofW (cc := cX1_obstacleDetail) (maxL := 4) (ret := (some .int)) (by decide) rfl ?_
  intro p e s m args below meth c s₁ B hml hv
  obtain ⟨rfl, hP, hK⟩ := hv
  have hx := B.exec
  have hb := B.bytes
  have hr := B.returns
  have hts := atoms_spec (ws := .code yX1_obstacleDetail cX1_obstacleDetail 4 (some .int) :: GW) B.pre
  have htg : ∀ w ∈ GW, w.before _ s = true := fun w h => hts w (List.mem_cons_of_mem _ h)
  have hown : s.vm.findClass RX1 = some m.cls := findClass_of_methodNamed B.named
  have hlocks := B.notSynchronized
  have hl := lv_entry ([.ref (a 0), .int (zI cd), .int (zI t), .int (zI b)]) (n := 4) (Nat.le_of_ble_eq_true rfl)
  rw [lg_entry_eq]
  generalize (lg_sl ([.ref (a 0), .int (zI cd), .int (zI t), .int (zI b)]) ++ List.replicate (4 - (lg_sl ([.ref (a 0), .int (zI cd), .int (zI t), .int (zI b)])).length) Slot.unset).toArray = ls at hl ⊢
  have hl : lv_has ls 4 [(0, .ref (a 0)), (1, .int (zI cd)), (2, .int (zI t)), (3, .int (zI b))] := hl
  obtain ⟨b00, b01, b02, b03, b1, b2, b3, b4, b5, b6, b7, b8, b9, b10, b11, b12⟩ := id hI
  have hlb := lb_r hI t
  refine lv_iload_n hx hb dX1_obstacleDetail_0 rfl (lv_at hl 1 rfl) ?_
  rcases (show cd = 6 ∨ cd = 7 ∨ cd = 8 ∨ cd = 9 ∨ (cd < 6 ∨ 9 < cd) by omega) with c1 | c1 | c1 | c1 | c1
  · refine x_is c1 ?_
    refine lv_tableIn (tgt := 32) (off := 31) hx hb dX1_obstacleDetail_1 (by decide) (by decide) (by decide) (by decide) ?_
    refine lv_aload_n hx hb dX1_obstacleDetail_32 rfl (lv_at hl 0 rfl) ?_
    refine lv_iload_n hx hb dX1_obstacleDetail_33 rfl (lv_at hl 2 rfl) ?_
    refine vp_callSi (W.runV (As := [.int (zI t)]) (rest := []) ⟨hx, hb, hml, hown, htg⟩ (c_leasedBench l dg ck a S t hI (by omega)) (cwV 1 htg (gwV wq_514 wq_485 wq_486 wq_2 wq_487) rfl rfl rfl (by decide +kernel) ⟨Nat.le_of_ble_eq_true rfl, Nat.le_of_ble_eq_true rfl⟩) (rd_preV hK hP 0 4 rfl rfl) rfl rfl hl.1 rfl (lv_room (Nat.le_of_ble_eq_true rfl)) dX1_obstacleDetail_34 ⟨Nat.zero_le _, Nat.zero_le _⟩) (fun r34 hr34 => ?_)
    subst hr34
    exact W.iret (v := _) hx hb hr (fun t9 ht9 hW9 => ⟨_, rfl, (congrArg zI (by unfold obsD noiseB; repeat (first | rw [if_pos (by omega)] | rw [if_neg (by omega)]))), ht9⟩) (fun _ h => by cases h) dX1_obstacleDetail_37
  · refine x_is c1 ?_
    refine lv_tableIn (tgt := 38) (off := 37) hx hb dX1_obstacleDetail_1 (by decide) (by decide) (by decide) (by decide) ?_
    refine lv_aload_n hx hb dX1_obstacleDetail_38 rfl (lv_at hl 0 rfl) ?_
    refine va_get (D := dg) (ci := 4) (v := .ref (a 3)) (C := RX1) (T := TX1) (N := 13) hx hb htg inG_X1 hown hK hP 0 rfl rfl 4 (Nat.le_of_ble_eq_true rfl) (htg _ wq_114) (fun _ h9 => h9) rfl dX1_obstacleDetail_39 ?_
    refine lv_iload_n hx hb dX1_obstacleDetail_42 rfl (lv_at hl 3 rfl) ?_
    refine x_iald hx hb hK hP 3 0 (fun i => S 4 i - 1) rfl rfl (fun _ => rfl) (P := fun y => -1 ≤ y ∧ y ≤ S 0 2 - 1) (fun i => by have := b4 i; omega) (by decide) (by omega) dX1_obstacleDetail_43 (fun g43 => ?_)
    exact W.iret (v := _) hx hb hr (fun t9 ht9 hW9 => ⟨_, rfl, (congrArg zI (by unfold obsD noiseB; repeat (first | rw [if_pos (by omega)] | rw [if_neg (by omega)]))), ht9⟩) (fun _ h => by cases h) dX1_obstacleDetail_44
  · refine x_is c1 ?_
    refine lv_tableIn (tgt := 45) (off := 44) hx hb dX1_obstacleDetail_1 (by decide) (by decide) (by decide) (by decide) ?_
    refine lv_aload_n hx hb dX1_obstacleDetail_45 rfl (lv_at hl 0 rfl) ?_
    refine va_get (D := dg) (ci := 4) (v := .ref (a 6)) (C := RX1) (T := TX1) (N := 13) hx hb htg inG_X1 hown hK hP 0 rfl rfl 0 (Nat.le_of_ble_eq_true rfl) (htg _ wq_106) (fun _ h9 => h9) rfl dX1_obstacleDetail_46 ?_
    refine lv_aload_n hx hb dX1_obstacleDetail_49 rfl (lv_at hl 0 rfl) ?_
    refine va_get (D := dg) (ci := 4) (v := .ref (a 6)) (C := RX1) (T := TX1) (N := 13) hx hb htg inG_X1 hown hK hP 0 rfl rfl 0 (Nat.le_of_ble_eq_true rfl) (htg _ wq_106) (fun _ h9 => h9) rfl dX1_obstacleDetail_50 ?_
    refine va_get (D := dg) (ci := 9) (v := .ref (a 7)) (C := RX6) (T := TX6) (N := 10) hx hb htg inG_X6 hown hK hP 6 rfl rfl 1 (Nat.le_of_ble_eq_true rfl) (htg _ wq_59) (fun _ h9 => h9) rfl dX1_obstacleDetail_53 ?_
    refine lv_iload_n hx hb dX1_obstacleDetail_56 rfl (lv_at hl 3 rfl) ?_
    refine x_iald hx hb hK hP 7 0 (S 1) rfl rfl (fun _ => rfl) (P := fun y => 0 ≤ y ∧ y ≤ 5) b1 (by decide) (by omega) dX1_obstacleDetail_57 (fun g57 => ?_)
    refine lv_aload_n hx hb dX1_obstacleDetail_58 rfl (lv_at hl 0 rfl) ?_
    refine va_get (D := dg) (ci := 4) (v := .ref (a 6)) (C := RX1) (T := TX1) (N := 13) hx hb htg inG_X1 hown hK hP 0 rfl rfl 0 (Nat.le_of_ble_eq_true rfl) (htg _ wq_106) (fun _ h9 => h9) rfl dX1_obstacleDetail_59 ?_
    refine va_get (D := dg) (ci := 9) (v := .ref (a 8)) (C := RX6) (T := TX6) (N := 10) hx hb htg inG_X6 hown hK hP 6 rfl rfl 2 (Nat.le_of_ble_eq_true rfl) (htg _ wq_61) (fun _ h9 => h9) rfl dX1_obstacleDetail_62 ?_
    refine lv_iload_n hx hb dX1_obstacleDetail_65 rfl (lv_at hl 3 rfl) ?_
    refine x_iald hx hb hK hP 8 0 (S 2) rfl rfl (fun _ => rfl) (P := fun y => 0 ≤ y ∧ y ≤ 5) b2 (by decide) (by omega) dX1_obstacleDetail_66 (fun g66 => ?_)
    refine vp_callSi (W.runV (As := [.int (zI (S 1 b)), .int (zI (S 2 b))]) (rest := []) ⟨hx, hb, hml, hown, htg⟩ (c_noise l dg ck (pa a) S (S 1 b) (S 2 b) hI (by omega) (by omega)) (cwV 2 htg (gwV wq_816 wq_459 wq_460 wq_3 wq_461) rfl rfl rfl (by decide +kernel) ⟨Nat.le_of_ble_eq_true rfl, Nat.le_of_ble_eq_true rfl⟩) (rd_preV hK (va_P_r (w1 := bookC ck a S) (w2 := parkC ck (pa a) S) hP) 0 9 rfl rfl) rfl rfl hl.1 rfl (lv_room (Nat.le_of_ble_eq_true rfl)) dX1_obstacleDetail_67 ⟨Nat.zero_le _, Nat.zero_le _⟩) (fun r67 hr67 => ?_)
    subst hr67
    exact W.iret (v := _) hx hb hr (fun t9 ht9 hW9 => ⟨_, rfl, (congrArg zI (by unfold obsD noiseB; repeat (first | rw [if_pos (by omega)] | rw [if_neg (by omega)]))), ht9⟩) (fun _ h => by cases h) dX1_obstacleDetail_70
  · refine x_is c1 ?_
    refine lv_tableIn (tgt := 71) (off := 70) hx hb dX1_obstacleDetail_1 (by decide) (by decide) (by decide) (by decide) ?_
    refine lv_aload_n hx hb dX1_obstacleDetail_71 rfl (lv_at hl 0 rfl) ?_
    refine va_get (D := dg) (ci := 4) (v := .ref (a 1)) (C := RX1) (T := TX1) (N := 13) hx hb htg inG_X1 hown hK hP 0 rfl rfl 2 (Nat.le_of_ble_eq_true rfl) (htg _ wq_110) (fun _ h9 => h9) rfl dX1_obstacleDetail_72 ?_
    refine lv_iload_n hx hb dX1_obstacleDetail_75 rfl (lv_at hl 2 rfl) ?_
    refine x_iald hx hb hK hP 1 0 (S 11) rfl rfl (fun _ => rfl) (P := fun y => 0 ≤ y ∧ y ≤ 4000000) b11 (by decide) (by omega) dX1_obstacleDetail_76 (fun g76 => ?_)
    exact W.iret (v := _) hx hb hr (fun t9 ht9 hW9 => ⟨_, rfl, (congrArg zI (by unfold obsD noiseB; repeat (first | rw [if_pos (by omega)] | rw [if_neg (by omega)]))), ht9⟩) (fun _ h => by cases h) dX1_obstacleDetail_77
  · refine lv_tableOut (tgt := 78) hx hb dX1_obstacleDetail_1 (by rw [zI_toInt (by omega)]; exact c1) (by decide) ?_
    refine lv_iload_n hx hb dX1_obstacleDetail_78 rfl (lv_at hl 2 rfl) ?_
    exact W.iret (v := _) hx hb hr (fun t9 ht9 hW9 => ⟨_, rfl, (congrArg zI (by unfold obsD noiseB; repeat (first | rw [if_pos (by omega)] | rw [if_neg (by omega)]))), ht9⟩) (fun _ h => by cases h) dX1_obstacleDetail_79

set_option maxHeartbeats 4000000 in
set_option maxRecDepth 100000 in
/-- BenchBroker$Books.cheapestBench -/
theorem c_cheapestBench (l : Launch) (dg : va_G) (ck : Nat → ClassId) (a : Nat → Nat) (S : St) (t : Int) (hI : Bd S) (ht0 : 0 ≤ t ∧ t < 8) : Met l yX1_cheapestBench (.code yX1_cheapestBench cX1_cheapestBench 6 (some .int) :: GW) ({ frames := 4, cells := 0, slots := 0, locals := 90 }) (va_Pc [.ref (a 0), .int (zI t)] (rdP dg ck (booksC ck a S))) (vp_Si (fun r => r = zI (chB S t (S 0 0).toNat))) 0 0 (fun _ => False) := by
  refine Met.ofW (cc := cX1_cheapestBench) (maxL := 6) (ret := (some .int)) (by decide) rfl ?_
  intro p e s m args below meth c s₁ B hml hv
  obtain ⟨rfl, hP, hK⟩ := hv
  have hx := B.exec
  have hb := B.bytes
  have hr := B.returns
  have hts := atoms_spec (ws := .code yX1_cheapestBench cX1_cheapestBench 6 (some .int) :: GW) B.pre
  have htg : ∀ w ∈ GW, w.before _ s = true := fun w h => hts w (List.mem_cons_of_mem _ h)
  have hown : s.vm.findClass RX1 = some m.cls := findClass_of_methodNamed B.named
  have hlocks := B.notSynchronized
  have hl := lv_entry ([.ref (a 0), .int (zI t)]) (n := 6) (Nat.le_of_ble_eq_true rfl)
  rw [lg_entry_eq]
  generalize (lg_sl ([.ref (a 0), .int (zI t)]) ++ List.replicate (6 - (lg_sl ([.ref (a 0), .int (zI t)])).length) Slot.unset).toArray = ls at hl ⊢
  have hl : lv_has ls 6 [(0, .ref (a 0)), (1, .int (zI t))] := hl
  obtain ⟨b00, b01, b02, b03, b1, b2, b3, b4, b5, b6, b7, b8, b9, b10, b11, b12⟩ := id hI
  refine x_iconst hx hb dX1_cheapestBench_0 ?_
  refine lv_istore_n (lv' := [(2, .int (zI (-1))), (0, .ref (a 0)), (1, .int (zI t))]) hx hb dX1_cheapestBench_1 rfl hl (by decide) rfl (fun ls hl => ?_)
  refine x_iconst hx hb dX1_cheapestBench_2 ?_
  refine lv_istore_n (lv' := [(3, .int (zI 0)), (2, .int (zI (-1))), (0, .ref (a 0)), (1, .int (zI t))]) hx hb dX1_cheapestBench_3 rfl hl (by decide) rfl (fun ls hl => ?_)
  refine x_iconst hx hb dX1_cheapestBench_4 ?_
  refine lv_istore (lv' := [(4, .int (zI 0)), (3, .int (zI 0)), (2, .int (zI (-1))), (0, .ref (a 0)), (1, .int (zI t))]) hx hb dX1_cheapestBench_5 hl (by decide) rfl (fun ls hl => ?_)
  refine x_loop (ι := Int × Int × Int) (fun v => (0 ≤ v.2.2 ∧ v.2.2 ≤ S 0 0) ∧ v.1 = chB S t v.2.2.toNat ∧ (v.1 ≠ -1 → v.2.1 = rent S v.1) ∧ (0 ≤ v.2.1 ∧ v.2.1 ≤ 20)) (fun v => (S 0 0 - v.2.2).toNat) (fun v => [(0, .ref (a 0)), (1, .int (zI t)), (2, .int (zI v.1)), (3, .int (zI v.2.1)), (4, .int (zI v.2.2))]) ((-1), 0, 0) (show (0 ≤ (0 : Int) ∧ (0 : Int) ≤ S 0 0) ∧ ((-1) : Int) = chB S t (0 : Int).toNat ∧ (((-1) : Int) ≠ -1 → (0 : Int) = rent S ((-1) : Int)) ∧ (0 ≤ (0 : Int) ∧ (0 : Int) ≤ 20) from ⟨by omega, rfl, fun h => absurd rfl h, by omega⟩) (lv_sub hl [3, 4, 2, 1, 0] rfl) ?_
  intro v hv ih_7 ls hl
  obtain ⟨u, w, i⟩ := v
  have hl : lv_has ls 6 [(0, .ref (a 0)), (1, .int (zI t)), (2, .int (zI u)), (3, .int (zI w)), (4, .int (zI i))] := hl
  have hv : (0 ≤ i ∧ i ≤ S 0 0) ∧ u = chB S t i.toNat ∧ (u ≠ -1 → w = rent S u) ∧ (0 ≤ w ∧ w ≤ 20) := hv
  obtain ⟨hi, hu, hw, hwr⟩ := hv
  refine lv_iload hx hb dX1_cheapestBench_7 (lv_at hl 4 rfl) ?_
  refine lv_aload_n hx hb dX1_cheapestBench_9 rfl (lv_at hl 0 rfl) ?_
  refine va_get (D := dg) (ci := 4) (v := .ref (a 6)) (C := RX1) (T := TX1) (N := 13) hx hb htg inG_X1 hown hK hP 0 rfl rfl 0 (Nat.le_of_ble_eq_true rfl) (htg _ wq_106) (fun _ h9 => h9) rfl dX1_cheapestBench_10 ?_
  refine va_get (D := dg) (ci := 9) (v := .int (zI (S 0 0))) (C := RX6) (T := TX6) (N := 10) hx hb htg inG_X6 hown hK hP 6 rfl rfl 0 (Nat.le_of_ble_eq_true rfl) (htg _ wq_55) (fun _ h9 => h9) rfl dX1_cheapestBench_13 ?_
  refine x_icmp_ge (tgt := 63) hx hb dX1_cheapestBench_16 (by decide) (by omega) (by omega) (fun c16 => ?_) (fun c16 => ?_)
  · refine lv_iload_n hx hb dX1_cheapestBench_63 rfl (lv_at hl 2 rfl) ?_
    exact W.iret (v := _) hx hb hr (fun t9 ht9 hW9 => ⟨_, rfl, (by rw [hu, show i = S 0 0 by omega]), ht9⟩) (fun _ h => by cases h) dX1_cheapestBench_64
  · have hre := rent_r hI i
    have hob := obst_r S t i
    have hcr := chB_r S t i.toNat
    have hre2 := rent_r hI u
    refine lv_aload_n hx hb dX1_cheapestBench_19 rfl (lv_at hl 0 rfl) ?_
    refine va_get (D := dg) (ci := 4) (v := .ref (a 6)) (C := RX1) (T := TX1) (N := 13) hx hb htg inG_X1 hown hK hP 0 rfl rfl 0 (Nat.le_of_ble_eq_true rfl) (htg _ wq_106) (fun _ h9 => h9) rfl dX1_cheapestBench_20 ?_
    refine lv_iload hx hb dX1_cheapestBench_23 (lv_at hl 4 rfl) ?_
    refine vp_callSi (W.runV (As := [.int (zI i)]) (rest := []) ⟨hx, hb, hml, hown, htg⟩ (c_rent l dg ck (pa a) S i hI (by omega)) (cwV 1 htg (gwV wq_524 wq_455 wq_456 wq_3 wq_457) rfl rfl rfl (by decide +kernel) ⟨Nat.le_of_ble_eq_true rfl, Nat.le_of_ble_eq_true rfl⟩) (rd_preV hK (va_P_r (w1 := bookC ck a S) (w2 := parkC ck (pa a) S) hP) 0 9 rfl rfl) rfl rfl hl.1 rfl (lv_room (Nat.le_of_ble_eq_true rfl)) dX1_cheapestBench_25 ⟨Nat.zero_le _, Nat.zero_le _⟩) (fun r25 hr25 => ?_)
    subst hr25
    refine x_top _ (fun v28 e_v28 => ?_)
    refine lv_istore (lv' := [(5, .int (zI v28)), (0, .ref (a 0)), (1, .int (zI t)), (2, .int (zI u)), (3, .int (zI w)), (4, .int (zI i))]) hx hb dX1_cheapestBench_28 hl (by decide) rfl (fun ls hl => ?_)
    refine lv_aload_n hx hb dX1_cheapestBench_30 rfl (lv_at hl 1 rfl) ?_
    refine lv_iload_n hx hb dX1_cheapestBench_31 rfl (lv_at hl 2 rfl) ?_
    refine lv_iload hx hb dX1_cheapestBench_32 (lv_at hl 5 rfl) ?_
    refine vp_callSi (W.runV (As := [.int (zI t), .int (zI i)]) (rest := []) ⟨hx, hb, hml, hown, htg⟩ (c_leaseObstacle l dg ck a S t i hI (by omega) (by omega)) (cwV 2 htg (gwV wq_811 wq_511 wq_512 wq_2 wq_513) rfl rfl rfl (by decide +kernel) ⟨Nat.le_of_ble_eq_true rfl, Nat.le_of_ble_eq_true rfl⟩) (rd_preV hK hP 0 4 rfl rfl) rfl rfl hl.1 rfl (lv_room (Nat.le_of_ble_eq_true rfl)) dX1_cheapestBench_34 ⟨Nat.zero_le _, Nat.zero_le _⟩) (fun r34 hr34 => ?_)
    subst hr34
    refine x_if_ne (tgt := 57) hx hb dX1_cheapestBench_37 (by decide) (by omega) (fun c37 => ?_) (fun c37 => ?_)
    · obtain ⟨v57, e_v57⟩ : ∃ y : Int, y = i + 1 := ⟨_, rfl⟩
      refine lv_iinc (v := zI v57) (lv' := [(4, .int (zI v57)), (5, .int (zI v28)), (0, .ref (a 0)), (1, .int (zI t)), (2, .int (zI u)), (3, .int (zI w))]) hx hb dX1_cheapestBench_57 hl (k := 5) rfl (by rw [e_v57]; exact zI_add _ _) (by decide) rfl (fun ls hl => ?_)
      refine lv_goto (tgt := 7) hx hb dX1_cheapestBench_60 (by decide) ?_
      exact ih_7 (u, w, v57) (show (0 ≤ v57 ∧ v57 ≤ S 0 0) ∧ u = chB S t v57.toNat ∧ (u ≠ -1 → w = rent S u) ∧ (0 ≤ w ∧ w ≤ 20) from ⟨by omega, (by rw [e_v57, chB_s hi.1, ← hu]; first | rw [if_pos ⟨by omega, by omega⟩] | rw [if_neg (fun h => by omega)]), (fun _ => by first | exact e_v28 | exact hw (by omega)), by omega⟩) (show (S 0 0 - v57).toNat < (S 0 0 - i).toNat from by omega) ls (lv_sub hl [2, 3, 4, 5, 0] rfl)
    · have hwu : u ≠ -1 → w = rent S u := hw
      refine lv_iload_n hx hb dX1_cheapestBench_40 rfl (lv_at hl 3 rfl) ?_
      refine x_iconst hx hb dX1_cheapestBench_41 ?_
      refine x_icmp_eq (tgt := 51) hx hb dX1_cheapestBench_42 (by decide) (by omega) (by omega) (fun c42 => ?_) (fun c42 => ?_)
      · refine lv_iload hx hb dX1_cheapestBench_51 (lv_at hl 5 rfl) ?_
        refine lv_istore_n (lv' := [(2, .int (zI i)), (5, .int (zI v28)), (0, .ref (a 0)), (1, .int (zI t)), (3, .int (zI w)), (4, .int (zI i))]) hx hb dX1_cheapestBench_53 rfl hl (by decide) rfl (fun ls hl => ?_)
        refine lv_iload hx hb dX1_cheapestBench_54 (lv_at hl 1 rfl) ?_
        refine lv_istore_n (lv' := [(3, .int (zI v28)), (2, .int (zI i)), (5, .int (zI v28)), (0, .ref (a 0)), (1, .int (zI t)), (4, .int (zI i))]) hx hb dX1_cheapestBench_56 rfl hl (by decide) rfl (fun ls hl => ?_)
        obtain ⟨v57, e_v57⟩ : ∃ y : Int, y = i + 1 := ⟨_, rfl⟩
        refine lv_iinc (v := zI v57) (lv' := [(4, .int (zI v57)), (3, .int (zI v28)), (2, .int (zI i)), (5, .int (zI v28)), (0, .ref (a 0)), (1, .int (zI t))]) hx hb dX1_cheapestBench_57 hl (k := 5) rfl (by rw [e_v57]; exact zI_add _ _) (by decide) rfl (fun ls hl => ?_)
        refine lv_goto (tgt := 7) hx hb dX1_cheapestBench_60 (by decide) ?_
        exact ih_7 (i, v28, v57) (show (0 ≤ v57 ∧ v57 ≤ S 0 0) ∧ i = chB S t v57.toNat ∧ (i ≠ -1 → v28 = rent S i) ∧ (0 ≤ v28 ∧ v28 ≤ 20) from ⟨by omega, (by rw [e_v57, chB_s hi.1, ← hu]; first | rw [if_pos ⟨by omega, by omega⟩] | rw [if_neg (fun h => by omega)]), (fun _ => by first | exact e_v28 | exact hw (by omega)), by omega⟩) (show (S 0 0 - v57).toNat < (S 0 0 - i).toNat from by omega) ls (lv_sub hl [4, 5, 2, 1, 0] rfl)
      · refine lv_iload hx hb dX1_cheapestBench_45 (lv_at hl 0 rfl) ?_
        refine lv_iload_n hx hb dX1_cheapestBench_47 rfl (lv_at hl 4 rfl) ?_
        refine x_icmp_ge (tgt := 57) hx hb dX1_cheapestBench_48 (by decide) (by omega) (by omega) (fun c48 => ?_) (fun c48 => ?_)
        · obtain ⟨v57, e_v57⟩ : ∃ y : Int, y = i + 1 := ⟨_, rfl⟩
          refine lv_iinc (v := zI v57) (lv' := [(4, .int (zI v57)), (5, .int (zI v28)), (0, .ref (a 0)), (1, .int (zI t)), (2, .int (zI u)), (3, .int (zI w))]) hx hb dX1_cheapestBench_57 hl (k := 5) rfl (by rw [e_v57]; exact zI_add _ _) (by decide) rfl (fun ls hl => ?_)
          refine lv_goto (tgt := 7) hx hb dX1_cheapestBench_60 (by decide) ?_
          exact ih_7 (u, w, v57) (show (0 ≤ v57 ∧ v57 ≤ S 0 0) ∧ u = chB S t v57.toNat ∧ (u ≠ -1 → w = rent S u) ∧ (0 ≤ w ∧ w ≤ 20) from ⟨by omega, (by rw [e_v57, chB_s hi.1, ← hu]; first | rw [if_pos ⟨by omega, by omega⟩] | rw [if_neg (fun h => by omega)]), (fun _ => by first | exact e_v28 | exact hw (by omega)), by omega⟩) (show (S 0 0 - v57).toNat < (S 0 0 - i).toNat from by omega) ls (lv_sub hl [2, 3, 4, 5, 0] rfl)
        · refine lv_iload hx hb dX1_cheapestBench_51 (lv_at hl 5 rfl) ?_
          refine lv_istore_n (lv' := [(2, .int (zI i)), (5, .int (zI v28)), (0, .ref (a 0)), (1, .int (zI t)), (3, .int (zI w)), (4, .int (zI i))]) hx hb dX1_cheapestBench_53 rfl hl (by decide) rfl (fun ls hl => ?_)
          refine lv_iload hx hb dX1_cheapestBench_54 (lv_at hl 1 rfl) ?_
          refine lv_istore_n (lv' := [(3, .int (zI v28)), (2, .int (zI i)), (5, .int (zI v28)), (0, .ref (a 0)), (1, .int (zI t)), (4, .int (zI i))]) hx hb dX1_cheapestBench_56 rfl hl (by decide) rfl (fun ls hl => ?_)
          obtain ⟨v57, e_v57⟩ : ∃ y : Int, y = i + 1 := ⟨_, rfl⟩
          refine lv_iinc (v := zI v57) (lv' := [(4, .int (zI v57)), (3, .int (zI v28)), (2, .int (zI i)), (5, .int (zI v28)), (0, .ref (a 0)), (1, .int (zI t))]) hx hb dX1_cheapestBench_57 hl (k := 5) rfl (by rw [e_v57]; exact zI_add _ _) (by decide) rfl (fun ls hl => ?_)
          refine lv_goto (tgt := 7) hx hb dX1_cheapestBench_60 (by decide) ?_
          exact ih_7 (i, v28, v57) (show (0 ≤ v57 ∧ v57 ≤ S 0 0) ∧ i = chB S t v57.toNat ∧ (i ≠ -1 → v28 = rent S i) ∧ (0 ≤ v28 ∧ v28 ≤ 20) from ⟨by omega, (by rw [e_v57, chB_s hi.1, ← hu]; first | rw [if_pos ⟨by omega, by omega⟩] | rw [if_neg (fun h => by omega)]), (fun _ => by first | exact e_v28 | exact hw (by omega)), by omega⟩) (show (S 0 0 - v57).toNat < (S 0 0 - i).toNat from by omega) ls (lv_sub hl [4, 5, 2, 1, 0] rfl)

set_option maxHeartbeats 4000000 in
set_option maxRecDepth 100000 in
/-- BenchBroker$Books.payableMonths -/
theorem c_payableMonths (l : Launch) (dg : va_G) (ck : Nat → ClassId) (a : Nat → Nat) (S : St) (b : Int) (hI : Bd S) (hb0 : 0 ≤ b ∧ b < 10) (hl0 : S 4 b ≠ 0) : Met l yX1_payableMonths (.code yX1_payableMonths cX1_payableMonths 3 (some .int) :: GW) ({ frames := 3, cells := 0, slots := 0, locals := 68 }) (va_Pc [.ref (a 0), .int (zI b)] (rdP dg ck (booksC ck a S))) (vp_Si (fun r => r = zI (payable S b))) 0 0 (fun _ => False) := by
  refine Met.ofW (cc := cX1_payableMonths) (maxL := 3) (ret := (some .int)) (by decide) rfl ?_
  intro p e s m args below meth c s₁ B hml hv
  obtain ⟨rfl, hP, hK⟩ := hv
  have hx := B.exec
  have hb := B.bytes
  have hr := B.returns
  have hts := atoms_spec (ws := .code yX1_payableMonths cX1_payableMonths 3 (some .int) :: GW) B.pre
  have htg : ∀ w ∈ GW, w.before _ s = true := fun w h => hts w (List.mem_cons_of_mem _ h)
  have hown : s.vm.findClass RX1 = some m.cls := findClass_of_methodNamed B.named
  have hlocks := B.notSynchronized
  have hl := lv_entry ([.ref (a 0), .int (zI b)]) (n := 3) (Nat.le_of_ble_eq_true rfl)
  rw [lg_entry_eq]
  generalize (lg_sl ([.ref (a 0), .int (zI b)]) ++ List.replicate (3 - (lg_sl ([.ref (a 0), .int (zI b)])).length) Slot.unset).toArray = ls at hl ⊢
  have hl : lv_has ls 3 [(0, .ref (a 0)), (1, .int (zI b))] := hl
  obtain ⟨b00, b01, b02, b03, b1, b2, b3, b4, b5, b6, b7, b8, b9, b10, b11, b12⟩ := id hI
  have hre := rent_r hI b
  have hlt := b4 b
  refine lv_aload_n hx hb dX1_payableMonths_0 rfl (lv_at hl 0 rfl) ?_
  refine va_get (D := dg) (ci := 4) (v := .ref (a 6)) (C := RX1) (T := TX1) (N := 13) hx hb htg inG_X1 hown hK hP 0 rfl rfl 0 (Nat.le_of_ble_eq_true rfl) (htg _ wq_106) (fun _ h9 => h9) rfl dX1_payableMonths_1 ?_
  refine lv_iload_n hx hb dX1_payableMonths_4 rfl (lv_at hl 1 rfl) ?_
  refine vp_callSi (W.runV (As := [.int (zI b)]) (rest := []) ⟨hx, hb, hml, hown, htg⟩ (c_rent l dg ck (pa a) S b hI (by omega)) (cwV 1 htg (gwV wq_524 wq_455 wq_456 wq_3 wq_457) rfl rfl rfl (by decide +kernel) ⟨Nat.le_of_ble_eq_true rfl, Nat.le_of_ble_eq_true rfl⟩) (rd_preV hK (va_P_r (w1 := bookC ck a S) (w2 := parkC ck (pa a) S) hP) 0 9 rfl rfl) rfl rfl hl.1 rfl (lv_room (Nat.le_of_ble_eq_true rfl)) dX1_payableMonths_5 ⟨Nat.zero_le _, Nat.zero_le _⟩) (fun r5 hr5 => ?_)
  subst hr5
  refine x_top _ (fun v8 e_v8 => ?_)
  refine lv_istore_n (lv' := [(2, .int (zI v8)), (0, .ref (a 0)), (1, .int (zI b))]) hx hb dX1_payableMonths_8 rfl hl (by decide) rfl (fun ls hl => ?_)
  refine lv_iload_n hx hb dX1_payableMonths_9 rfl (lv_at hl 0 rfl) ?_
  refine x_iconst hx hb dX1_payableMonths_10 ?_
  refine x_icmp_ge (tgt := 18) hx hb dX1_payableMonths_11 (by decide) (by omega) (by omega) (fun c11 => ?_) (fun c11 => ?_)
  · refine lv_aload_n hx hb dX1_payableMonths_18 rfl (lv_at hl 1 rfl) ?_
    refine va_get (D := dg) (ci := 4) (v := .ref (a 1)) (C := RX1) (T := TX1) (N := 13) hx hb htg inG_X1 hown hK hP 0 rfl rfl 2 (Nat.le_of_ble_eq_true rfl) (htg _ wq_110) (fun _ h9 => h9) rfl dX1_payableMonths_19 ?_
    refine lv_aload_n hx hb dX1_payableMonths_22 rfl (lv_at hl 1 rfl) ?_
    refine va_get (D := dg) (ci := 4) (v := .ref (a 3)) (C := RX1) (T := TX1) (N := 13) hx hb htg inG_X1 hown hK hP 0 rfl rfl 4 (Nat.le_of_ble_eq_true rfl) (htg _ wq_114) (fun _ h9 => h9) rfl dX1_payableMonths_23 ?_
    refine lv_iload_n hx hb dX1_payableMonths_26 rfl (lv_at hl 2 rfl) ?_
    refine x_iald hx hb hK hP 3 0 (fun i => S 4 i - 1) rfl rfl (fun _ => rfl) (P := fun y => -1 ≤ y ∧ y ≤ S 0 2 - 1) (fun i => by have := b4 i; omega) (by decide) (by omega) dX1_payableMonths_27 (fun g27 => ?_)
    refine x_iald hx hb hK hP 1 0 (S 11) rfl rfl (fun _ => rfl) (P := fun y => 0 ≤ y ∧ y ≤ 4000000) b11 (by decide) (by omega) dX1_payableMonths_28 (fun g28 => ?_)
    refine lv_iload_n hx hb dX1_payableMonths_29 rfl (lv_at hl 0 rfl) ?_
    refine x_idiv hx hb dX1_payableMonths_30 (by omega) (by omega) ?_
    exact W.iret (v := _) hx hb hr (fun t9 ht9 hW9 => ⟨_, rfl, (congrArg zI (by first | (exfalso; omega) | (rw [e_v8]; rfl))), ht9⟩) (fun _ h => by cases h) dX1_payableMonths_31
  · refine x_iconst hx hb dX1_payableMonths_14 ?_
    refine lv_goto (tgt := 31) hx hb dX1_payableMonths_15 (by decide) ?_
    exact W.iret (v := _) hx hb hr (fun t9 ht9 hW9 => ⟨_, rfl, (congrArg zI (by first | (exfalso; omega) | (rw [e_v8]; rfl))), ht9⟩) (fun _ h => by cases h) dX1_payableMonths_31

set_option maxHeartbeats 4000000 in
set_option maxRecDepth 100000 in
/-- BenchBroker$Books.incomeFrom -/
theorem c_incomeFrom (l : Launch) (dg : va_G) (ck : Nat → ClassId) (a : Nat → Nat) (S : St) (b k : Int) (hI : Bd S) (hb0 : 0 ≤ b ∧ b < 10) (hl0 : S 4 b ≠ 0) (hk : 0 ≤ k ∧ k ≤ 12) : Met l yX1_incomeFrom (.code yX1_incomeFrom cX1_incomeFrom 5 (some .int) :: GW) ({ frames := 4, cells := 0, slots := 0, locals := 90 }) (va_Pc [.ref (a 0), .int (zI b), .int (zI k)] (rdP dg ck (booksC ck a S))) (vp_Si (fun r => r = zI (incF S b k))) 0 0 (fun _ => False) := by
  refine Met.ofW (cc := cX1_incomeFrom) (maxL := 5) (ret := (some .int)) (by decide) rfl ?_
  intro p e s m args below meth c s₁ B hml hv
  obtain ⟨rfl, hP, hK⟩ := hv
  have hx := B.exec
  have hb := B.bytes
  have hr := B.returns
  have hts := atoms_spec (ws := .code yX1_incomeFrom cX1_incomeFrom 5 (some .int) :: GW) B.pre
  have htg : ∀ w ∈ GW, w.before _ s = true := fun w h => hts w (List.mem_cons_of_mem _ h)
  have hown : s.vm.findClass RX1 = some m.cls := findClass_of_methodNamed B.named
  have hlocks := B.notSynchronized
  have hl := lv_entry ([.ref (a 0), .int (zI b), .int (zI k)]) (n := 5) (Nat.le_of_ble_eq_true rfl)
  rw [lg_entry_eq]
  generalize (lg_sl ([.ref (a 0), .int (zI b), .int (zI k)]) ++ List.replicate (5 - (lg_sl ([.ref (a 0), .int (zI b), .int (zI k)])).length) Slot.unset).toArray = ls at hl ⊢
  have hl : lv_has ls 5 [(0, .ref (a 0)), (1, .int (zI b)), (2, .int (zI k))] := hl
  obtain ⟨b00, b01, b02, b03, b1, b2, b3, b4, b5, b6, b7, b8, b9, b10, b11, b12⟩ := id hI
  have hre := rent_r hI b
  have hcn := b11 (S 4 b - 1)
  have hpy : 0 ≤ payable S b := Int.ediv_nonneg hcn.1 (by omega)
  have hpy2 : payable S b ≤ S 11 (S 4 b - 1) := Int.ediv_le_self _ hcn.1
  refine lv_aload_n hx hb dX1_incomeFrom_0 rfl (lv_at hl 0 rfl) ?_
  refine lv_iload_n hx hb dX1_incomeFrom_1 rfl (lv_at hl 1 rfl) ?_
  refine vp_callSi (W.runV (As := [.int (zI b)]) (rest := []) ⟨hx, hb, hml, hown, htg⟩ (c_payableMonths l dg ck a S b hI (by omega) (by omega)) (cwV 1 htg (gwV wq_1468 wq_559 wq_560 wq_2 wq_561) rfl rfl rfl (by decide +kernel) ⟨Nat.le_of_ble_eq_true rfl, Nat.le_of_ble_eq_true rfl⟩) (rd_preV hK hP 0 4 rfl rfl) rfl rfl hl.1 rfl (lv_room (Nat.le_of_ble_eq_true rfl)) dX1_incomeFrom_2 ⟨Nat.zero_le _, Nat.zero_le _⟩) (fun r2 hr2 => ?_)
  subst hr2
  refine x_top _ (fun v5 e_v5 => ?_)
  refine lv_istore_n (lv' := [(3, .int (zI v5)), (0, .ref (a 0)), (1, .int (zI b)), (2, .int (zI k))]) hx hb dX1_incomeFrom_5 rfl hl (by decide) rfl (fun ls hl => ?_)
  refine lv_aload_n hx hb dX1_incomeFrom_6 rfl (lv_at hl 1 rfl) ?_
  refine va_get (D := dg) (ci := 4) (v := .ref (a 6)) (C := RX1) (T := TX1) (N := 13) hx hb htg inG_X1 hown hK hP 0 rfl rfl 0 (Nat.le_of_ble_eq_true rfl) (htg _ wq_106) (fun _ h9 => h9) rfl dX1_incomeFrom_7 ?_
  refine lv_iload_n hx hb dX1_incomeFrom_10 rfl (lv_at hl 2 rfl) ?_
  refine vp_callSi (W.runV (As := [.int (zI b)]) (rest := []) ⟨hx, hb, hml, hown, htg⟩ (c_rent l dg ck (pa a) S b hI (by omega)) (cwV 1 htg (gwV wq_524 wq_455 wq_456 wq_3 wq_457) rfl rfl rfl (by decide +kernel) ⟨Nat.le_of_ble_eq_true rfl, Nat.le_of_ble_eq_true rfl⟩) (rd_preV hK (va_P_r (w1 := bookC ck a S) (w2 := parkC ck (pa a) S) hP) 0 9 rfl rfl) rfl rfl hl.1 rfl (lv_room (Nat.le_of_ble_eq_true rfl)) dX1_incomeFrom_11 ⟨Nat.zero_le _, Nat.zero_le _⟩) (fun r11 hr11 => ?_)
  subst hr11
  refine x_top _ (fun v14 e_v14 => ?_)
  refine lv_istore (lv' := [(4, .int (zI v14)), (3, .int (zI v5)), (0, .ref (a 0)), (1, .int (zI b)), (2, .int (zI k))]) hx hb dX1_incomeFrom_14 hl (by decide) rfl (fun ls hl => ?_)
  refine lv_iload_n hx hb dX1_incomeFrom_16 rfl (lv_at hl 1 rfl) ?_
  refine lv_iload_n hx hb dX1_incomeFrom_17 rfl (lv_at hl 4 rfl) ?_
  refine x_icmp_ge (tgt := 35) hx hb dX1_incomeFrom_18 (by decide) (by omega) (by omega) (fun c18 => ?_) (fun c18 => ?_)
  · refine lv_iload_n hx hb dX1_incomeFrom_35 rfl (lv_at hl 4 rfl) ?_
    refine lv_iload hx hb dX1_incomeFrom_36 (lv_at hl 0 rfl) ?_
    refine x_imul hx hb dX1_incomeFrom_38 ?_
    exact W.iret (v := _) hx hb hr (fun t9 ht9 hW9 => ⟨_, rfl, (congrArg zI (by unfold incF; first | rw [if_pos (by omega), e_v5, e_v14] | rw [if_neg (by omega), e_v14])), ht9⟩) (fun _ h => by cases h) dX1_incomeFrom_39
  · refine lv_iload_n hx hb dX1_incomeFrom_21 rfl (lv_at hl 1 rfl) ?_
    refine lv_iload hx hb dX1_incomeFrom_22 (lv_at hl 0 rfl) ?_
    refine x_imul hx hb dX1_incomeFrom_24 ?_
    refine lv_aload_n hx hb dX1_incomeFrom_25 rfl (lv_at hl 2 rfl) ?_
    refine va_get (D := dg) (ci := 4) (v := .ref (a 4)) (C := RX1) (T := TX1) (N := 13) hx hb htg inG_X1 hown hK hP 0 rfl rfl 5 (Nat.le_of_ble_eq_true rfl) (htg _ wq_116) (fun _ h9 => h9) rfl dX1_incomeFrom_26 ?_
    refine lv_iload_n hx hb dX1_incomeFrom_29 rfl (lv_at hl 3 rfl) ?_
    refine x_iald hx hb hK hP 4 0 (S 5) rfl rfl (fun _ => rfl) (P := fun y => 0 ≤ y ∧ y ≤ 20) b5 (by decide) (by omega) dX1_incomeFrom_30 (fun g30 => ?_)
    refine x_iadd hx hb dX1_incomeFrom_31 ?_
    refine lv_goto (tgt := 39) hx hb dX1_incomeFrom_32 (by decide) ?_
    exact W.iret (v := _) hx hb hr (fun t9 ht9 hW9 => ⟨_, rfl, (congrArg zI (by unfold incF; first | rw [if_pos (by omega), e_v5, e_v14] | rw [if_neg (by omega), e_v14])), ht9⟩) (fun _ h => by cases h) dX1_incomeFrom_39

set_option maxHeartbeats 4000000 in
set_option maxRecDepth 100000 in
/-- BenchBroker$Books.leaseIncome -/
theorem c_leaseIncome (l : Launch) (dg : va_G) (ck : Nat → ClassId) (a : Nat → Nat) (S : St) (k : Int) (hI : Bd S) (hk : 1 ≤ k ∧ k ≤ 12) : Met l yX1_leaseIncome (.code yX1_leaseIncome cX1_leaseIncome 4 (some .int) :: GW) ({ frames := 5, cells := 0, slots := 0, locals := 114 }) (va_Pc [.ref (a 0), .int (zI k)] (rdP dg ck (booksC ck a S))) (vp_Si (fun r => r = zI (leaseInc S k))) 0 0 (fun _ => False) := by
  refine Met.ofW (cc := cX1_leaseIncome) (maxL := 4) (ret := (some .int)) (by decide) rfl ?_
  intro p e s m args below meth c s₁ B hml hv
  obtain ⟨rfl, hP, hK⟩ := hv
  have hx := B.exec
  have hb := B.bytes
  have hr := B.returns
  have hts := atoms_spec (ws := .code yX1_leaseIncome cX1_leaseIncome 4 (some .int) :: GW) B.pre
  have htg : ∀ w ∈ GW, w.before _ s = true := fun w h => hts w (List.mem_cons_of_mem _ h)
  have hown : s.vm.findClass RX1 = some m.cls := findClass_of_methodNamed B.named
  have hlocks := B.notSynchronized
  have hl := lv_entry ([.ref (a 0), .int (zI k)]) (n := 4) (Nat.le_of_ble_eq_true rfl)
  rw [lg_entry_eq]
  generalize (lg_sl ([.ref (a 0), .int (zI k)]) ++ List.replicate (4 - (lg_sl ([.ref (a 0), .int (zI k)])).length) Slot.unset).toArray = ls at hl ⊢
  have hl : lv_has ls 4 [(0, .ref (a 0)), (1, .int (zI k))] := hl
  obtain ⟨b00, b01, b02, b03, b1, b2, b3, b4, b5, b6, b7, b8, b9, b10, b11, b12⟩ := id hI
  refine x_iconst hx hb dX1_leaseIncome_0 ?_
  refine lv_istore_n (lv' := [(2, .int (zI 0)), (0, .ref (a 0)), (1, .int (zI k))]) hx hb dX1_leaseIncome_1 rfl hl (by decide) rfl (fun ls hl => ?_)
  refine x_iconst hx hb dX1_leaseIncome_2 ?_
  refine lv_istore_n (lv' := [(3, .int (zI 0)), (2, .int (zI 0)), (0, .ref (a 0)), (1, .int (zI k))]) hx hb dX1_leaseIncome_3 rfl hl (by decide) rfl (fun ls hl => ?_)
  refine x_loop (ι := Int × Int) (fun v => (0 ≤ v.2 ∧ v.2 ≤ S 0 0) ∧ v.1 = sumZ (incB S k) v.2.toNat) (fun v => (S 0 0 - v.2).toNat) (fun v => [(0, .ref (a 0)), (1, .int (zI k)), (2, .int (zI v.1)), (3, .int (zI v.2))]) (0, 0) (show (0 ≤ (0 : Int) ∧ (0 : Int) ≤ S 0 0) ∧ (0 : Int) = sumZ (incB S k) (0 : Int).toNat from ⟨by omega, rfl⟩) (lv_sub hl [2, 3, 1, 0] rfl) ?_
  intro v hv ih_4 ls hl
  obtain ⟨u, i⟩ := v
  have hl : lv_has ls 4 [(0, .ref (a 0)), (1, .int (zI k)), (2, .int (zI u)), (3, .int (zI i))] := hl
  have hv : (0 ≤ i ∧ i ≤ S 0 0) ∧ u = sumZ (incB S k) i.toNat := hv
  obtain ⟨hi, hu⟩ := hv
  refine lv_iload_n hx hb dX1_leaseIncome_4 rfl (lv_at hl 3 rfl) ?_
  refine lv_aload_n hx hb dX1_leaseIncome_5 rfl (lv_at hl 0 rfl) ?_
  refine va_get (D := dg) (ci := 4) (v := .ref (a 6)) (C := RX1) (T := TX1) (N := 13) hx hb htg inG_X1 hown hK hP 0 rfl rfl 0 (Nat.le_of_ble_eq_true rfl) (htg _ wq_106) (fun _ h9 => h9) rfl dX1_leaseIncome_6 ?_
  refine va_get (D := dg) (ci := 9) (v := .int (zI (S 0 0))) (C := RX6) (T := TX6) (N := 10) hx hb htg inG_X6 hown hK hP 6 rfl rfl 0 (Nat.le_of_ble_eq_true rfl) (htg _ wq_55) (fun _ h9 => h9) rfl dX1_leaseIncome_9 ?_
  refine x_icmp_ge (tgt := 58) hx hb dX1_leaseIncome_12 (by decide) (by omega) (by omega) (fun c12 => ?_) (fun c12 => ?_)
  · refine lv_iload_n hx hb dX1_leaseIncome_58 rfl (lv_at hl 2 rfl) ?_
    exact W.iret (v := _) hx hb hr (fun t9 ht9 hW9 => ⟨_, rfl, (by rw [hu, show i = S 0 0 by omega]; rfl), ht9⟩) (fun _ h => by cases h) dX1_leaseIncome_59
  · have h6i := b6 i
    refine lv_aload_n hx hb dX1_leaseIncome_15 rfl (lv_at hl 0 rfl) ?_
    refine lv_iload_n hx hb dX1_leaseIncome_16 rfl (lv_at hl 3 rfl) ?_
    refine vp_callSi (W.runV (As := [.int (zI i)]) (rest := []) ⟨hx, hb, hml, hown, htg⟩ (c_leased l dg ck a S i hI (by omega)) (cwV 1 htg (gwV wq_515 wq_516 wq_517 wq_2 wq_518) rfl rfl rfl (by decide +kernel) ⟨Nat.le_of_ble_eq_true rfl, Nat.le_of_ble_eq_true rfl⟩) (rd_preV hK hP 0 4 rfl rfl) rfl rfl hl.1 rfl (lv_room (Nat.le_of_ble_eq_true rfl)) dX1_leaseIncome_17 ⟨Nat.zero_le _, Nat.zero_le _⟩) (fun r17 hr17 => ?_)
    subst hr17
    refine x_bz_eq (tgt := 52) hx hb dX1_leaseIncome_20 (by decide) (fun c20 => ?_) (fun c20 => ?_)
    · obtain ⟨v52, e_v52⟩ : ∃ y : Int, y = i + 1 := ⟨_, rfl⟩
      refine lv_iinc (v := zI v52) (lv' := [(3, .int (zI v52)), (0, .ref (a 0)), (1, .int (zI k)), (2, .int (zI u))]) hx hb dX1_leaseIncome_52 hl (k := 3) rfl (by rw [e_v52]; exact zI_add _ _) (by decide) rfl (fun ls hl => ?_)
      refine lv_goto (tgt := 4) hx hb dX1_leaseIncome_55 (by decide) ?_
      exact ih_4 (u, v52) (show (0 ≤ v52 ∧ v52 ≤ S 0 0) ∧ u = sumZ (incB S k) v52.toNat from ⟨by omega, (by rw [e_v52, sumZ_s hi.1, ← hu]; unfold incB; first | rw [if_pos ⟨by omega, by omega⟩, e_v51, show m44 = (if k ≤ S 6 i then k else S 6 i) by split <;> omega] | (rw [if_neg (fun h => by omega)]; omega))⟩) (show (S 0 0 - v52).toNat < (S 0 0 - i).toNat from by omega) ls (lv_sub hl [1, 2, 3, 0] rfl)
    · refine lv_aload_n hx hb dX1_leaseIncome_23 rfl (lv_at hl 0 rfl) ?_
      refine va_get (D := dg) (ci := 4) (v := .ref (a 6)) (C := RX1) (T := TX1) (N := 13) hx hb htg inG_X1 hown hK hP 0 rfl rfl 0 (Nat.le_of_ble_eq_true rfl) (htg _ wq_106) (fun _ h9 => h9) rfl dX1_leaseIncome_24 ?_
      refine lv_iload_n hx hb dX1_leaseIncome_27 rfl (lv_at hl 3 rfl) ?_
      refine vp_callSi (W.runV (As := [.int (zI i)]) (rest := []) ⟨hx, hb, hml, hown, htg⟩ (c_quiet l dg ck (pa a) S i hI (by omega)) (cwV 1 htg (gwV wq_520 wq_521 wq_522 wq_3 wq_523) rfl rfl rfl (by decide +kernel) ⟨Nat.le_of_ble_eq_true rfl, Nat.le_of_ble_eq_true rfl⟩) (rd_preV hK (va_P_r (w1 := bookC ck a S) (w2 := parkC ck (pa a) S) hP) 0 9 rfl rfl) rfl rfl hl.1 rfl (lv_room (Nat.le_of_ble_eq_true rfl)) dX1_leaseIncome_28 ⟨Nat.zero_le _, Nat.zero_le _⟩) (fun r28 hr28 => ?_)
      subst hr28
      refine x_bz_eq (tgt := 52) hx hb dX1_leaseIncome_31 (by decide) (fun c31 => ?_) (fun c31 => ?_)
      · obtain ⟨v52, e_v52⟩ : ∃ y : Int, y = i + 1 := ⟨_, rfl⟩
        refine lv_iinc (v := zI v52) (lv' := [(3, .int (zI v52)), (0, .ref (a 0)), (1, .int (zI k)), (2, .int (zI u))]) hx hb dX1_leaseIncome_52 hl (k := 3) rfl (by rw [e_v52]; exact zI_add _ _) (by decide) rfl (fun ls hl => ?_)
        refine lv_goto (tgt := 4) hx hb dX1_leaseIncome_55 (by decide) ?_
        exact ih_4 (u, v52) (show (0 ≤ v52 ∧ v52 ≤ S 0 0) ∧ u = sumZ (incB S k) v52.toNat from ⟨by omega, (by rw [e_v52, sumZ_s hi.1, ← hu]; unfold incB; first | rw [if_pos ⟨by omega, by omega⟩, e_v51, show m44 = (if k ≤ S 6 i then k else S 6 i) by split <;> omega] | (rw [if_neg (fun h => by omega)]; omega))⟩) (show (S 0 0 - v52).toNat < (S 0 0 - i).toNat from by omega) ls (lv_sub hl [1, 2, 3, 0] rfl)
      · refine lv_iload_n hx hb dX1_leaseIncome_34 rfl (lv_at hl 2 rfl) ?_
        refine lv_aload_n hx hb dX1_leaseIncome_35 rfl (lv_at hl 0 rfl) ?_
        refine lv_iload_n hx hb dX1_leaseIncome_36 rfl (lv_at hl 3 rfl) ?_
        refine lv_iload_n hx hb dX1_leaseIncome_37 rfl (lv_at hl 1 rfl) ?_
        refine lv_aload_n hx hb dX1_leaseIncome_38 rfl (lv_at hl 0 rfl) ?_
        refine va_get (D := dg) (ci := 4) (v := .ref (a 5)) (C := RX1) (T := TX1) (N := 13) hx hb htg inG_X1 hown hK hP 0 rfl rfl 6 (Nat.le_of_ble_eq_true rfl) (htg _ wq_118) (fun _ h9 => h9) rfl dX1_leaseIncome_39 ?_
        refine lv_iload_n hx hb dX1_leaseIncome_42 rfl (lv_at hl 3 rfl) ?_
        refine x_iald hx hb hK hP 5 0 (S 6) rfl rfl (fun _ => rfl) (P := fun y => 0 ≤ y ∧ y ≤ 12) b6 (by decide) (by omega) dX1_leaseIncome_43 (fun g43 => ?_)
        refine x_mmin hx hb (hml.trans hl.1.symm) hown (htg _ wq_1463) (htg _ wq_718) (htg _ wq_23) (htg _ wq_719) (Nat.le_of_ble_eq_true rfl) (Nat.le_of_ble_eq_true rfl) (Nat.zero_le _) (Nat.zero_le _) (by omega) (by omega) dX1_leaseIncome_44 (fun m44 hm44 => ?_)
        refine vp_callSi (W.runV (As := [.int (zI i), .int (zI m44)]) (rest := [.int (zI u)]) ⟨hx, hb, hml, hown, htg⟩ (c_incomeFrom l dg ck a S i m44 hI (by omega) (by omega) (by omega)) (cwV 2 htg (gwV wq_1464 wq_1466 wp_28 wq_2 wq_1467) rfl rfl rfl (by decide +kernel) ⟨Nat.le_of_ble_eq_true rfl, Nat.le_of_ble_eq_true rfl⟩) (rd_preV hK hP 0 4 rfl rfl) rfl rfl hl.1 rfl (lv_room (Nat.le_of_ble_eq_true rfl)) dX1_leaseIncome_47 ⟨Nat.zero_le _, Nat.zero_le _⟩) (fun r47 hr47 => ?_)
        subst hr47
        refine x_iadd hx hb dX1_leaseIncome_50 ?_
        refine x_top _ (fun v51 e_v51 => ?_)
        refine lv_istore_n (lv' := [(2, .int (zI v51)), (0, .ref (a 0)), (1, .int (zI k)), (3, .int (zI i))]) hx hb dX1_leaseIncome_51 rfl hl (by decide) rfl (fun ls hl => ?_)
        obtain ⟨v52, e_v52⟩ : ∃ y : Int, y = i + 1 := ⟨_, rfl⟩
        refine lv_iinc (v := zI v52) (lv' := [(3, .int (zI v52)), (2, .int (zI v51)), (0, .ref (a 0)), (1, .int (zI k))]) hx hb dX1_leaseIncome_52 hl (k := 3) rfl (by rw [e_v52]; exact zI_add _ _) (by decide) rfl (fun ls hl => ?_)
        refine lv_goto (tgt := 4) hx hb dX1_leaseIncome_55 (by decide) ?_
        exact ih_4 (v51, v52) (show (0 ≤ v52 ∧ v52 ≤ S 0 0) ∧ v51 = sumZ (incB S k) v52.toNat from ⟨by omega, (by rw [e_v52, sumZ_s hi.1, ← hu]; unfold incB; first | rw [if_pos ⟨by omega, by omega⟩, e_v51, show m44 = (if k ≤ S 6 i then k else S 6 i) by split <;> omega] | (rw [if_neg (fun h => by omega)]; omega))⟩) (show (S 0 0 - v52).toNat < (S 0 0 - i).toNat from by omega) ls (lv_sub hl [2, 3, 1, 0] rfl)

set_option maxHeartbeats 4000000 in
set_option maxRecDepth 100000 in
/-- BenchBroker$Books.deposits -/
theorem c_deposits (l : Launch) (dg : va_G) (ck : Nat → ClassId) (a : Nat → Nat) (S : St) (hI : Bd S)  : Met l yX1_deposits (.code yX1_deposits cX1_deposits 3 (some .int) :: GW) ({ frames := 0, cells := 0, slots := 0, locals := 0 }) (va_Pc [.ref (a 0)] (rdP dg ck (booksC ck a S))) (vp_Si (fun r => r = zI (deps S))) 0 0 (fun _ => False) := by
  refine Met.ofW (cc := cX1_deposits) (maxL := 3) (ret := (some .int)) (by decide) rfl ?_
  intro p e s m args below meth c s₁ B hml hv
  obtain ⟨rfl, hP, hK⟩ := hv
  have hx := B.exec
  have hb := B.bytes
  have hr := B.returns
  have hts := atoms_spec (ws := .code yX1_deposits cX1_deposits 3 (some .int) :: GW) B.pre
  have htg : ∀ w ∈ GW, w.before _ s = true := fun w h => hts w (List.mem_cons_of_mem _ h)
  have hown : s.vm.findClass RX1 = some m.cls := findClass_of_methodNamed B.named
  have hlocks := B.notSynchronized
  have hl := lv_entry ([.ref (a 0)]) (n := 3) (Nat.le_of_ble_eq_true rfl)
  rw [lg_entry_eq]
  generalize (lg_sl ([.ref (a 0)]) ++ List.replicate (3 - (lg_sl ([.ref (a 0)])).length) Slot.unset).toArray = ls at hl ⊢
  have hl : lv_has ls 3 [(0, .ref (a 0))] := hl
  obtain ⟨b00, b01, b02, b03, b1, b2, b3, b4, b5, b6, b7, b8, b9, b10, b11, b12⟩ := id hI
  refine x_iconst hx hb dX1_deposits_0 ?_
  refine lv_istore_n (lv' := [(1, .int (zI 0)), (0, .ref (a 0))]) hx hb dX1_deposits_1 rfl hl (by decide) rfl (fun ls hl => ?_)
  refine x_iconst hx hb dX1_deposits_2 ?_
  refine lv_istore_n (lv' := [(2, .int (zI 0)), (1, .int (zI 0)), (0, .ref (a 0))]) hx hb dX1_deposits_3 rfl hl (by decide) rfl (fun ls hl => ?_)
  refine x_loop (ι := Int × Int) (fun v => (0 ≤ v.2 ∧ v.2 ≤ S 0 0) ∧ v.1 = sumZ (S 5) v.2.toNat) (fun v => (S 0 0 - v.2).toNat) (fun v => [(0, .ref (a 0)), (1, .int (zI v.1)), (2, .int (zI v.2))]) (0, 0) (show (0 ≤ (0 : Int) ∧ (0 : Int) ≤ S 0 0) ∧ (0 : Int) = sumZ (S 5) (0 : Int).toNat from ⟨by omega, rfl⟩) (lv_sub hl [2, 1, 0] rfl) ?_
  intro v hv ih_4 ls hl
  obtain ⟨u, i⟩ := v
  have hl : lv_has ls 3 [(0, .ref (a 0)), (1, .int (zI u)), (2, .int (zI i))] := hl
  have hv : (0 ≤ i ∧ i ≤ S 0 0) ∧ u = sumZ (S 5) i.toNat := hv
  obtain ⟨hi, hu⟩ := hv
  refine lv_iload_n hx hb dX1_deposits_4 rfl (lv_at hl 2 rfl) ?_
  refine lv_aload_n hx hb dX1_deposits_5 rfl (lv_at hl 0 rfl) ?_
  refine va_get (D := dg) (ci := 4) (v := .ref (a 6)) (C := RX1) (T := TX1) (N := 13) hx hb htg inG_X1 hown hK hP 0 rfl rfl 0 (Nat.le_of_ble_eq_true rfl) (htg _ wq_106) (fun _ h9 => h9) rfl dX1_deposits_6 ?_
  refine va_get (D := dg) (ci := 9) (v := .int (zI (S 0 0))) (C := RX6) (T := TX6) (N := 10) hx hb htg inG_X6 hown hK hP 6 rfl rfl 0 (Nat.le_of_ble_eq_true rfl) (htg _ wq_55) (fun _ h9 => h9) rfl dX1_deposits_9 ?_
  refine x_icmp_ge (tgt := 30) hx hb dX1_deposits_12 (by decide) (by omega) (by omega) (fun c12 => ?_) (fun c12 => ?_)
  · refine lv_iload_n hx hb dX1_deposits_30 rfl (lv_at hl 1 rfl) ?_
    exact W.iret (v := _) hx hb hr (fun t9 ht9 hW9 => ⟨_, rfl, (by rw [hu, show i = S 0 0 by omega]; rfl), ht9⟩) (fun _ h => by cases h) dX1_deposits_31
  · refine lv_iload_n hx hb dX1_deposits_15 rfl (lv_at hl 1 rfl) ?_
    refine lv_aload_n hx hb dX1_deposits_16 rfl (lv_at hl 0 rfl) ?_
    refine va_get (D := dg) (ci := 4) (v := .ref (a 4)) (C := RX1) (T := TX1) (N := 13) hx hb htg inG_X1 hown hK hP 0 rfl rfl 5 (Nat.le_of_ble_eq_true rfl) (htg _ wq_116) (fun _ h9 => h9) rfl dX1_deposits_17 ?_
    refine lv_iload_n hx hb dX1_deposits_20 rfl (lv_at hl 2 rfl) ?_
    refine x_iald hx hb hK hP 4 0 (S 5) rfl rfl (fun _ => rfl) (P := fun y => 0 ≤ y ∧ y ≤ 20) b5 (by decide) (by omega) dX1_deposits_21 (fun g21 => ?_)
    refine x_iadd hx hb dX1_deposits_22 ?_
    refine x_top _ (fun v23 e_v23 => ?_)
    refine lv_istore_n (lv' := [(1, .int (zI v23)), (0, .ref (a 0)), (2, .int (zI i))]) hx hb dX1_deposits_23 rfl hl (by decide) rfl (fun ls hl => ?_)
    obtain ⟨v24, e_v24⟩ : ∃ y : Int, y = i + 1 := ⟨_, rfl⟩
    refine lv_iinc (v := zI v24) (lv' := [(2, .int (zI v24)), (1, .int (zI v23)), (0, .ref (a 0))]) hx hb dX1_deposits_24 hl (k := 2) rfl (by rw [e_v24]; exact zI_add _ _) (by decide) rfl (fun ls hl => ?_)
    refine lv_goto (tgt := 4) hx hb dX1_deposits_27 (by decide) ?_
    exact ih_4 (v23, v24) (show (0 ≤ v24 ∧ v24 ≤ S 0 0) ∧ v23 = sumZ (S 5) v24.toNat from ⟨by omega, (by rw [e_v24, sumZ_s hi.1, ← hu, e_v23])⟩) (show (S 0 0 - v24).toNat < (S 0 0 - i).toNat from by omega) ls (lv_sub hl [2, 1, 0] rfl)

set_option maxHeartbeats 4000000 in
set_option maxRecDepth 100000 in
/-- BenchBroker$Books.coinsAround -/
theorem c_coinsAround (l : Launch) (dg : va_G) (ck : Nat → ClassId) (a : Nat → Nat) (S : St) (hI : Bd S)  : Met l yX1_coinsAround (.code yX1_coinsAround cX1_coinsAround 3 (some .int) :: GW) ({ frames := 1, cells := 0, slots := 0, locals := 22 }) (va_Pc [.ref (a 0)] (rdP dg ck (booksC ck a S))) (vp_Si (fun r => r = zI (coinsA S))) 0 0 (fun _ => False) := by
  refine Met.ofW (cc := cX1_coinsAround) (maxL := 3) (ret := (some .int)) (by decide) rfl ?_
  intro p e s m args below meth c s₁ B hml hv
  obtain ⟨rfl, hP, hK⟩ := hv
  have hx := B.exec
  have hb := B.bytes
  have hr := B.returns
  have hts := atoms_spec (ws := .code yX1_coinsAround cX1_coinsAround 3 (some .int) :: GW) B.pre
  have htg : ∀ w ∈ GW, w.before _ s = true := fun w h => hts w (List.mem_cons_of_mem _ h)
  have hown : s.vm.findClass RX1 = some m.cls := findClass_of_methodNamed B.named
  have hlocks := B.notSynchronized
  have hl := lv_entry ([.ref (a 0)]) (n := 3) (Nat.le_of_ble_eq_true rfl)
  rw [lg_entry_eq]
  generalize (lg_sl ([.ref (a 0)]) ++ List.replicate (3 - (lg_sl ([.ref (a 0)])).length) Slot.unset).toArray = ls at hl ⊢
  have hl : lv_has ls 3 [(0, .ref (a 0))] := hl
  obtain ⟨b00, b01, b02, b03, b1, b2, b3, b4, b5, b6, b7, b8, b9, b10, b11, b12⟩ := id hI
  refine lv_aload_n hx hb dX1_coinsAround_0 rfl (lv_at hl 0 rfl) ?_
  refine vp_callSi (W.runV (As := []) (rest := []) ⟨hx, hb, hml, hown, htg⟩ (c_deposits l dg ck a S hI) (cwV 0 htg (gwV wq_1524 wq_1513 wq_1514 wq_2 wq_1515) rfl rfl rfl (by decide +kernel) ⟨Nat.le_of_ble_eq_true rfl, Nat.le_of_ble_eq_true rfl⟩) (rd_preV hK hP 0 4 rfl rfl) rfl rfl hl.1 rfl (lv_room (Nat.le_of_ble_eq_true rfl)) dX1_coinsAround_1 ⟨Nat.zero_le _, Nat.zero_le _⟩) (fun r1 hr1 => ?_)
  subst hr1
  refine lv_aload_n hx hb dX1_coinsAround_4 rfl (lv_at hl 0 rfl) ?_
  refine va_get (D := dg) (ci := 4) (v := .int (zI (S 0 5))) (C := RX1) (T := TX1) (N := 13) hx hb htg inG_X1 hown hK hP 0 rfl rfl 8 (Nat.le_of_ble_eq_true rfl) (htg _ wq_122) (fun _ h9 => h9) rfl dX1_coinsAround_5 ?_
  refine x_iadd hx hb dX1_coinsAround_8 ?_
  refine x_top _ (fun v9 e_v9 => ?_)
  refine lv_istore_n (lv' := [(1, .int (zI v9)), (0, .ref (a 0))]) hx hb dX1_coinsAround_9 rfl hl (by decide) rfl (fun ls hl => ?_)
  refine x_iconst hx hb dX1_coinsAround_10 ?_
  refine lv_istore_n (lv' := [(2, .int (zI 0)), (1, .int (zI v9)), (0, .ref (a 0))]) hx hb dX1_coinsAround_11 rfl hl (by decide) rfl (fun ls hl => ?_)
  refine x_loop (ι := Int × Int) (fun v => (0 ≤ v.2 ∧ v.2 ≤ S 0 2) ∧ v.1 = deps S + S 0 5 + sumZ (S 11) v.2.toNat) (fun v => (S 0 2 - v.2).toNat) (fun v => [(0, .ref (a 0)), (1, .int (zI v.1)), (2, .int (zI v.2))]) (v9, 0) (show (0 ≤ (0 : Int) ∧ (0 : Int) ≤ S 0 2) ∧ v9 = deps S + S 0 5 + sumZ (S 11) (0 : Int).toNat from ⟨by omega, by rw [e_v9]; exact (Int.add_zero _).symm⟩) (lv_sub hl [2, 1, 0] rfl) ?_
  intro v hv ih_12 ls hl
  obtain ⟨u, i⟩ := v
  have hl : lv_has ls 3 [(0, .ref (a 0)), (1, .int (zI u)), (2, .int (zI i))] := hl
  have hv : (0 ≤ i ∧ i ≤ S 0 2) ∧ u = deps S + S 0 5 + sumZ (S 11) i.toNat := hv
  obtain ⟨hi, hu⟩ := hv
  refine lv_iload_n hx hb dX1_coinsAround_12 rfl (lv_at hl 2 rfl) ?_
  refine lv_aload_n hx hb dX1_coinsAround_13 rfl (lv_at hl 0 rfl) ?_
  refine va_get (D := dg) (ci := 4) (v := .int (zI (S 0 2))) (C := RX1) (T := TX1) (N := 13) hx hb htg inG_X1 hown hK hP 0 rfl rfl 1 (Nat.le_of_ble_eq_true rfl) (htg _ wq_108) (fun _ h9 => h9) rfl dX1_coinsAround_14 ?_
  refine x_icmp_ge (tgt := 35) hx hb dX1_coinsAround_17 (by decide) (by omega) (by omega) (fun c17 => ?_) (fun c17 => ?_)
  · refine lv_iload_n hx hb dX1_coinsAround_35 rfl (lv_at hl 1 rfl) ?_
    exact W.iret (v := _) hx hb hr (fun t9 ht9 hW9 => ⟨_, rfl, (by rw [hu, show i = S 0 2 by omega]; rfl), ht9⟩) (fun _ h => by cases h) dX1_coinsAround_36
  · refine lv_iload_n hx hb dX1_coinsAround_20 rfl (lv_at hl 1 rfl) ?_
    refine lv_aload_n hx hb dX1_coinsAround_21 rfl (lv_at hl 0 rfl) ?_
    refine va_get (D := dg) (ci := 4) (v := .ref (a 1)) (C := RX1) (T := TX1) (N := 13) hx hb htg inG_X1 hown hK hP 0 rfl rfl 2 (Nat.le_of_ble_eq_true rfl) (htg _ wq_110) (fun _ h9 => h9) rfl dX1_coinsAround_22 ?_
    refine lv_iload_n hx hb dX1_coinsAround_25 rfl (lv_at hl 2 rfl) ?_
    refine x_iald hx hb hK hP 1 0 (S 11) rfl rfl (fun _ => rfl) (P := fun y => 0 ≤ y ∧ y ≤ 4000000) b11 (by decide) (by omega) dX1_coinsAround_26 (fun g26 => ?_)
    refine x_iadd hx hb dX1_coinsAround_27 ?_
    refine x_top _ (fun v28 e_v28 => ?_)
    refine lv_istore_n (lv' := [(1, .int (zI v28)), (0, .ref (a 0)), (2, .int (zI i))]) hx hb dX1_coinsAround_28 rfl hl (by decide) rfl (fun ls hl => ?_)
    obtain ⟨v29, e_v29⟩ : ∃ y : Int, y = i + 1 := ⟨_, rfl⟩
    refine lv_iinc (v := zI v29) (lv' := [(2, .int (zI v29)), (1, .int (zI v28)), (0, .ref (a 0))]) hx hb dX1_coinsAround_29 hl (k := 2) rfl (by rw [e_v29]; exact zI_add _ _) (by decide) rfl (fun ls hl => ?_)
    refine lv_goto (tgt := 12) hx hb dX1_coinsAround_32 (by decide) ?_
    exact ih_12 (v28, v29) (show (0 ≤ v29 ∧ v29 ≤ S 0 2) ∧ v28 = deps S + S 0 5 + sumZ (S 11) v29.toNat from ⟨by omega, (by rw [e_v29, sumZ_s hi.1, e_v28, hu]; omega)⟩) (show (S 0 2 - v29).toNat < (S 0 2 - i).toNat from by omega) ls (lv_sub hl [2, 1, 0] rfl)

set_option maxHeartbeats 4000000 in
set_option maxRecDepth 100000 in
/-- BenchBroker$Books.someTenantHasTwoBenches -/
theorem c_twoBenches (l : Launch) (dg : va_G) (ck : Nat → ClassId) (a : Nat → Nat) (S : St) (hI : Bd S) (hU : ∀ b b', S 4 b = S 4 b' → S 4 b ≠ 0 → b = b') : Met l yX1_someTenantHasTwoBenches (.code yX1_someTenantHasTwoBenches cX1_someTenantHasTwoBenches 2 (some .boolean) :: GW) ({ frames := 2, cells := 0, slots := 0, locals := 42 }) (va_Pc [.ref (a 0)] (rdP dg ck (booksC ck a S))) (vp_Si (fun r => r = zI (bI False))) 0 0 (fun _ => False) := by
  refine Met.ofW (cc := cX1_someTenantHasTwoBenches) (maxL := 2) (ret := (some .boolean)) (by decide) rfl ?_
  intro p e s m args below meth c s₁ B hml hv
  obtain ⟨rfl, hP, hK⟩ := hv
  have hx := B.exec
  have hb := B.bytes
  have hr := B.returns
  have hts := atoms_spec (ws := .code yX1_someTenantHasTwoBenches cX1_someTenantHasTwoBenches 2 (some .boolean) :: GW) B.pre
  have htg : ∀ w ∈ GW, w.before _ s = true := fun w h => hts w (List.mem_cons_of_mem _ h)
  have hown : s.vm.findClass RX1 = some m.cls := findClass_of_methodNamed B.named
  have hlocks := B.notSynchronized
  have hl := lv_entry ([.ref (a 0)]) (n := 2) (Nat.le_of_ble_eq_true rfl)
  rw [lg_entry_eq]
  generalize (lg_sl ([.ref (a 0)]) ++ List.replicate (2 - (lg_sl ([.ref (a 0)])).length) Slot.unset).toArray = ls at hl ⊢
  have hl : lv_has ls 2 [(0, .ref (a 0))] := hl
  obtain ⟨b00, b01, b02, b03, b1, b2, b3, b4, b5, b6, b7, b8, b9, b10, b11, b12⟩ := id hI
  refine x_iconst hx hb dX1_someTenantHasTwoBenches_0 ?_
  refine lv_istore_n (lv' := [(1, .int (zI 0)), (0, .ref (a 0))]) hx hb dX1_someTenantHasTwoBenches_1 rfl hl (by decide) rfl (fun ls hl => ?_)
  refine x_loop (ι := Int) (fun v => (0 ≤ v ∧ v ≤ S 0 0)) (fun v => (S 0 0 - v).toNat) (fun v => [(0, .ref (a 0)), (1, .int (zI v))]) (0) (show (0 ≤ (0 : Int) ∧ (0 : Int) ≤ S 0 0) from (by omega)) (lv_sub hl [1, 0] rfl) ?_
  intro v hv ih_2 ls hl
  obtain ⟨i, rfl⟩ : ∃ z : Int, z = v := ⟨_, rfl⟩
  have hl : lv_has ls 2 [(0, .ref (a 0)), (1, .int (zI i))] := hl
  have hv : (0 ≤ i ∧ i ≤ S 0 0) := hv
  obtain ⟨hi0, hi1⟩ := hv
  refine lv_iload_n hx hb dX1_someTenantHasTwoBenches_2 rfl (lv_at hl 1 rfl) ?_
  refine lv_aload_n hx hb dX1_someTenantHasTwoBenches_3 rfl (lv_at hl 0 rfl) ?_
  refine va_get (D := dg) (ci := 4) (v := .ref (a 6)) (C := RX1) (T := TX1) (N := 13) hx hb htg inG_X1 hown hK hP 0 rfl rfl 0 (Nat.le_of_ble_eq_true rfl) (htg _ wq_106) (fun _ h9 => h9) rfl dX1_someTenantHasTwoBenches_4 ?_
  refine va_get (D := dg) (ci := 9) (v := .int (zI (S 0 0))) (C := RX6) (T := TX6) (N := 10) hx hb htg inG_X6 hown hK hP 6 rfl rfl 0 (Nat.le_of_ble_eq_true rfl) (htg _ wq_55) (fun _ h9 => h9) rfl dX1_someTenantHasTwoBenches_7 ?_
  refine x_icmp_ge (tgt := 43) hx hb dX1_someTenantHasTwoBenches_10 (by decide) (by omega) (by omega) (fun c10 => ?_) (fun c10 => ?_)
  · refine x_iconst hx hb dX1_someTenantHasTwoBenches_43 ?_
    exact W.zret (v := _) hx hb hr (by first | rfl | rfl) (fun t9 ht9 hW9 => ⟨_, rfl, (by first | rfl | (exfalso; omega)), ht9⟩) (fun _ h => by cases h) dX1_someTenantHasTwoBenches_44
  · refine lv_aload_n hx hb dX1_someTenantHasTwoBenches_13 rfl (lv_at hl 0 rfl) ?_
    refine lv_iload_n hx hb dX1_someTenantHasTwoBenches_14 rfl (lv_at hl 1 rfl) ?_
    refine vp_callSi (W.runV (As := [.int (zI i)]) (rest := []) ⟨hx, hb, hml, hown, htg⟩ (c_leased l dg ck a S i hI (by omega)) (cwV 1 htg (gwV wq_515 wq_516 wq_517 wq_2 wq_518) rfl rfl rfl (by decide +kernel) ⟨Nat.le_of_ble_eq_true rfl, Nat.le_of_ble_eq_true rfl⟩) (rd_preV hK hP 0 4 rfl rfl) rfl rfl hl.1 rfl (lv_room (Nat.le_of_ble_eq_true rfl)) dX1_someTenantHasTwoBenches_15 ⟨Nat.zero_le _, Nat.zero_le _⟩) (fun r15 hr15 => ?_)
    subst hr15
    refine x_bz_eq (tgt := 37) hx hb dX1_someTenantHasTwoBenches_18 (by decide) (fun c18 => ?_) (fun c18 => ?_)
    · obtain ⟨v37, e_v37⟩ : ∃ y : Int, y = i + 1 := ⟨_, rfl⟩
      refine lv_iinc (v := zI v37) (lv' := [(1, .int (zI v37)), (0, .ref (a 0))]) hx hb dX1_someTenantHasTwoBenches_37 hl (k := 1) rfl (by rw [e_v37]; exact zI_add _ _) (by decide) rfl (fun ls hl => ?_)
      refine lv_goto (tgt := 2) hx hb dX1_someTenantHasTwoBenches_40 (by decide) ?_
      exact ih_2 (v37) (show (0 ≤ v37 ∧ v37 ≤ S 0 0) from (by omega)) (show (S 0 0 - v37).toNat < (S 0 0 - i).toNat from by omega) ls (lv_sub hl [1, 0] rfl)
    · have hlo := lb_of hU ⟨hi0, by omega⟩ c18
      refine lv_aload_n hx hb dX1_someTenantHasTwoBenches_21 rfl (lv_at hl 0 rfl) ?_
      refine lv_aload_n hx hb dX1_someTenantHasTwoBenches_22 rfl (lv_at hl 0 rfl) ?_
      refine va_get (D := dg) (ci := 4) (v := .ref (a 3)) (C := RX1) (T := TX1) (N := 13) hx hb htg inG_X1 hown hK hP 0 rfl rfl 4 (Nat.le_of_ble_eq_true rfl) (htg _ wq_114) (fun _ h9 => h9) rfl dX1_someTenantHasTwoBenches_23 ?_
      refine lv_iload_n hx hb dX1_someTenantHasTwoBenches_26 rfl (lv_at hl 1 rfl) ?_
      refine x_iald hx hb hK hP 3 0 (fun i => S 4 i - 1) rfl rfl (fun _ => rfl) (P := fun y => -1 ≤ y ∧ y ≤ S 0 2 - 1) (fun i => by have := b4 i; omega) (by decide) (by omega) dX1_someTenantHasTwoBenches_27 (fun g27 => ?_)
      refine vp_callSi (W.runV (As := [.int (zI (S 4 i - 1))]) (rest := []) ⟨hx, hb, hml, hown, htg⟩ (c_leasedBench l dg ck a S (S 4 i - 1) hI (by omega)) (cwV 1 htg (gwV wq_514 wq_485 wq_486 wq_2 wq_487) rfl rfl rfl (by decide +kernel) ⟨Nat.le_of_ble_eq_true rfl, Nat.le_of_ble_eq_true rfl⟩) (rd_preV hK hP 0 4 rfl rfl) rfl rfl hl.1 rfl (lv_room (Nat.le_of_ble_eq_true rfl)) dX1_someTenantHasTwoBenches_28 ⟨Nat.zero_le _, Nat.zero_le _⟩) (fun r28 hr28 => ?_)
      subst hr28
      refine lv_iload_n hx hb dX1_someTenantHasTwoBenches_31 rfl (lv_at hl 1 rfl) ?_
      refine x_icmp_eq (tgt := 37) hx hb dX1_someTenantHasTwoBenches_32 (by decide) (by omega) (by omega) (fun c32 => ?_) (fun c32 => ?_)
      · obtain ⟨v37, e_v37⟩ : ∃ y : Int, y = i + 1 := ⟨_, rfl⟩
        refine lv_iinc (v := zI v37) (lv' := [(1, .int (zI v37)), (0, .ref (a 0))]) hx hb dX1_someTenantHasTwoBenches_37 hl (k := 1) rfl (by rw [e_v37]; exact zI_add _ _) (by decide) rfl (fun ls hl => ?_)
        refine lv_goto (tgt := 2) hx hb dX1_someTenantHasTwoBenches_40 (by decide) ?_
        exact ih_2 (v37) (show (0 ≤ v37 ∧ v37 ≤ S 0 0) from (by omega)) (show (S 0 0 - v37).toNat < (S 0 0 - i).toNat from by omega) ls (lv_sub hl [1, 0] rfl)
      · refine x_iconst hx hb dX1_someTenantHasTwoBenches_35 ?_
        exact W.zret (v := _) hx hb hr (by first | rfl | rfl) (fun t9 ht9 hW9 => ⟨_, rfl, (by first | rfl | (exfalso; omega)), ht9⟩) (fun _ h => by cases h) dX1_someTenantHasTwoBenches_36

set_option maxHeartbeats 4000000 in
set_option maxRecDepth 100000 in
/-- BenchBroker$Books.benchComesFirst -/
theorem c_benchComesFirst (l : Launch) (dg : va_G) (ck : Nat → ClassId) (a : Nat → Nat) (S : St) (x y : Int) (hI : Bd S) (hx0 : 0 ≤ x ∧ x < 10) (hy0 : 0 ≤ y ∧ y < 10) : Met l yX1_benchComesFirst (.code yX1_benchComesFirst cX1_benchComesFirst 5 (some .boolean) :: GW) ({ frames := 3, cells := 0, slots := 0, locals := 68 }) (va_Pc [.ref (a 0), .int (zI x), .int (zI y)] (rdP dg ck (booksC ck a S))) (vp_Si (fun r => r = zI (bI (bFirst S x y)))) 0 0 (fun _ => False) := by
  refine Met.ofW (cc := cX1_benchComesFirst) (maxL := 5) (ret := (some .boolean)) (by decide) rfl ?_
  intro p e s m args below meth c s₁ B hml hv
  obtain ⟨rfl, hP, hK⟩ := hv
  have hx := B.exec
  have hb := B.bytes
  have hr := B.returns
  have hts := atoms_spec (ws := .code yX1_benchComesFirst cX1_benchComesFirst 5 (some .boolean) :: GW) B.pre
  have htg : ∀ w ∈ GW, w.before _ s = true := fun w h => hts w (List.mem_cons_of_mem _ h)
  have hown : s.vm.findClass RX1 = some m.cls := findClass_of_methodNamed B.named
  have hlocks := B.notSynchronized
  have hl := lv_entry ([.ref (a 0), .int (zI x), .int (zI y)]) (n := 5) (Nat.le_of_ble_eq_true rfl)
  rw [lg_entry_eq]
  generalize (lg_sl ([.ref (a 0), .int (zI x), .int (zI y)]) ++ List.replicate (5 - (lg_sl ([.ref (a 0), .int (zI x), .int (zI y)])).length) Slot.unset).toArray = ls at hl ⊢
  have hl : lv_has ls 5 [(0, .ref (a 0)), (1, .int (zI x)), (2, .int (zI y))] := hl
  obtain ⟨b00, b01, b02, b03, b1, b2, b3, b4, b5, b6, b7, b8, b9, b10, b11, b12⟩ := id hI
  have hrx := rent_r hI x
  have hry := rent_r hI y
  have hpx := bI_x (S 4 x ≠ 0)
  have hpy := bI_x (S 4 y ≠ 0)
  refine lv_aload_n hx hb dX1_benchComesFirst_0 rfl (lv_at hl 0 rfl) ?_
  refine va_get (D := dg) (ci := 4) (v := .ref (a 6)) (C := RX1) (T := TX1) (N := 13) hx hb htg inG_X1 hown hK hP 0 rfl rfl 0 (Nat.le_of_ble_eq_true rfl) (htg _ wq_106) (fun _ h9 => h9) rfl dX1_benchComesFirst_1 ?_
  refine lv_iload_n hx hb dX1_benchComesFirst_4 rfl (lv_at hl 1 rfl) ?_
  refine vp_callSi (W.runV (As := [.int (zI x)]) (rest := []) ⟨hx, hb, hml, hown, htg⟩ (c_rent l dg ck (pa a) S x hI (by omega)) (cwV 1 htg (gwV wq_524 wq_455 wq_456 wq_3 wq_457) rfl rfl rfl (by decide +kernel) ⟨Nat.le_of_ble_eq_true rfl, Nat.le_of_ble_eq_true rfl⟩) (rd_preV hK (va_P_r (w1 := bookC ck a S) (w2 := parkC ck (pa a) S) hP) 0 9 rfl rfl) rfl rfl hl.1 rfl (lv_room (Nat.le_of_ble_eq_true rfl)) dX1_benchComesFirst_5 ⟨Nat.zero_le _, Nat.zero_le _⟩) (fun r5 hr5 => ?_)
  subst hr5
  refine x_top _ (fun v8 e_v8 => ?_)
  refine lv_istore_n (lv' := [(3, .int (zI v8)), (0, .ref (a 0)), (1, .int (zI x)), (2, .int (zI y))]) hx hb dX1_benchComesFirst_8 rfl hl (by decide) rfl (fun ls hl => ?_)
  refine lv_aload_n hx hb dX1_benchComesFirst_9 rfl (lv_at hl 1 rfl) ?_
  refine va_get (D := dg) (ci := 4) (v := .ref (a 6)) (C := RX1) (T := TX1) (N := 13) hx hb htg inG_X1 hown hK hP 0 rfl rfl 0 (Nat.le_of_ble_eq_true rfl) (htg _ wq_106) (fun _ h9 => h9) rfl dX1_benchComesFirst_10 ?_
  refine lv_iload_n hx hb dX1_benchComesFirst_13 rfl (lv_at hl 3 rfl) ?_
  refine vp_callSi (W.runV (As := [.int (zI y)]) (rest := []) ⟨hx, hb, hml, hown, htg⟩ (c_rent l dg ck (pa a) S y hI (by omega)) (cwV 1 htg (gwV wq_524 wq_455 wq_456 wq_3 wq_457) rfl rfl rfl (by decide +kernel) ⟨Nat.le_of_ble_eq_true rfl, Nat.le_of_ble_eq_true rfl⟩) (rd_preV hK (va_P_r (w1 := bookC ck a S) (w2 := parkC ck (pa a) S) hP) 0 9 rfl rfl) rfl rfl hl.1 rfl (lv_room (Nat.le_of_ble_eq_true rfl)) dX1_benchComesFirst_14 ⟨Nat.zero_le _, Nat.zero_le _⟩) (fun r14 hr14 => ?_)
  subst hr14
  refine x_top _ (fun v17 e_v17 => ?_)
  refine lv_istore (lv' := [(4, .int (zI v17)), (3, .int (zI v8)), (0, .ref (a 0)), (1, .int (zI x)), (2, .int (zI y))]) hx hb dX1_benchComesFirst_17 hl (by decide) rfl (fun ls hl => ?_)
  refine lv_iload_n hx hb dX1_benchComesFirst_19 rfl (lv_at hl 1 rfl) ?_
  refine lv_iload hx hb dX1_benchComesFirst_20 (lv_at hl 0 rfl) ?_
  refine x_icmp_eq (tgt := 37) hx hb dX1_benchComesFirst_22 (by decide) (by omega) (by omega) (fun c22 => ?_) (fun c22 => ?_)
  · refine lv_aload_n hx hb dX1_benchComesFirst_37 rfl (lv_at hl 2 rfl) ?_
    refine lv_iload_n hx hb dX1_benchComesFirst_38 rfl (lv_at hl 3 rfl) ?_
    refine vp_callSi (W.runV (As := [.int (zI x)]) (rest := []) ⟨hx, hb, hml, hown, htg⟩ (c_leased l dg ck a S x hI (by omega)) (cwV 1 htg (gwV wq_515 wq_516 wq_517 wq_2 wq_518) rfl rfl rfl (by decide +kernel) ⟨Nat.le_of_ble_eq_true rfl, Nat.le_of_ble_eq_true rfl⟩) (rd_preV hK hP 0 4 rfl rfl) rfl rfl hl.1 rfl (lv_room (Nat.le_of_ble_eq_true rfl)) dX1_benchComesFirst_39 ⟨Nat.zero_le _, Nat.zero_le _⟩) (fun r39 hr39 => ?_)
    subst hr39
    refine lv_aload_n hx hb dX1_benchComesFirst_42 rfl (lv_at hl 2 rfl) ?_
    refine lv_iload_n hx hb dX1_benchComesFirst_43 rfl (lv_at hl 4 rfl) ?_
    refine vp_callSi (W.runV (As := [.int (zI y)]) (rest := [.int (zI (bI (S 4 x ≠ 0)))]) ⟨hx, hb, hml, hown, htg⟩ (c_leased l dg ck a S y hI (by omega)) (cwV 1 htg (gwV wq_515 wq_516 wq_517 wq_2 wq_518) rfl rfl rfl (by decide +kernel) ⟨Nat.le_of_ble_eq_true rfl, Nat.le_of_ble_eq_true rfl⟩) (rd_preV hK hP 0 4 rfl rfl) rfl rfl hl.1 rfl (lv_room (Nat.le_of_ble_eq_true rfl)) dX1_benchComesFirst_44 ⟨Nat.zero_le _, Nat.zero_le _⟩) (fun r44 hr44 => ?_)
    subst hr44
    refine x_icmp_eq (tgt := 56) hx hb dX1_benchComesFirst_47 (by decide) (by omega) (by omega) (fun c47 => ?_) (fun c47 => ?_)
    · refine lv_iload_n hx hb dX1_benchComesFirst_56 rfl (lv_at hl 3 rfl) ?_
      refine lv_iload_n hx hb dX1_benchComesFirst_57 rfl (lv_at hl 4 rfl) ?_
      refine x_icmp_ge (tgt := 65) hx hb dX1_benchComesFirst_58 (by decide) (by omega) (by omega) (fun c58 => ?_) (fun c58 => ?_)
      · refine x_iconst hx hb dX1_benchComesFirst_65 ?_
        exact W.zret (v := _) hx hb hr (by first | rfl | exact nar_b _) (fun t9 ht9 hW9 => ⟨_, rfl, (congrArg zI (by first | exact (bI_t (by omega)).symm | exact (bI_f (by omega)).symm | exact bI_c (by omega))), ht9⟩) (fun _ h => by cases h) dX1_benchComesFirst_66
      · refine x_iconst hx hb dX1_benchComesFirst_61 ?_
        refine lv_goto (tgt := 66) hx hb dX1_benchComesFirst_62 (by decide) ?_
        exact W.zret (v := _) hx hb hr (by first | rfl | exact nar_b _) (fun t9 ht9 hW9 => ⟨_, rfl, (congrArg zI (by first | exact (bI_t (by omega)).symm | exact (bI_f (by omega)).symm | exact bI_c (by omega))), ht9⟩) (fun _ h => by cases h) dX1_benchComesFirst_66
    · refine lv_aload_n hx hb dX1_benchComesFirst_50 rfl (lv_at hl 2 rfl) ?_
      refine lv_iload_n hx hb dX1_benchComesFirst_51 rfl (lv_at hl 4 rfl) ?_
      refine vp_callSi (W.runV (As := [.int (zI y)]) (rest := []) ⟨hx, hb, hml, hown, htg⟩ (c_leased l dg ck a S y hI (by omega)) (cwV 1 htg (gwV wq_515 wq_516 wq_517 wq_2 wq_518) rfl rfl rfl (by decide +kernel) ⟨Nat.le_of_ble_eq_true rfl, Nat.le_of_ble_eq_true rfl⟩) (rd_preV hK hP 0 4 rfl rfl) rfl rfl hl.1 rfl (lv_room (Nat.le_of_ble_eq_true rfl)) dX1_benchComesFirst_52 ⟨Nat.zero_le _, Nat.zero_le _⟩) (fun r52 hr52 => ?_)
      subst hr52
      exact W.zret (v := _) hx hb hr (by first | rfl | exact nar_b _) (fun t9 ht9 hW9 => ⟨_, rfl, (congrArg zI (by first | exact (bI_t (by omega)).symm | exact (bI_f (by omega)).symm | exact bI_c (by omega))), ht9⟩) (fun _ h => by cases h) dX1_benchComesFirst_55
  · refine lv_iload_n hx hb dX1_benchComesFirst_25 rfl (lv_at hl 1 rfl) ?_
    refine lv_iload hx hb dX1_benchComesFirst_26 (lv_at hl 0 rfl) ?_
    refine x_icmp_ge (tgt := 35) hx hb dX1_benchComesFirst_28 (by decide) (by omega) (by omega) (fun c28 => ?_) (fun c28 => ?_)
    · refine x_iconst hx hb dX1_benchComesFirst_35 ?_
      exact W.zret (v := _) hx hb hr (by first | rfl | exact nar_b _) (fun t9 ht9 hW9 => ⟨_, rfl, (congrArg zI (by first | exact (bI_t (by omega)).symm | exact (bI_f (by omega)).symm | exact bI_c (by omega))), ht9⟩) (fun _ h => by cases h) dX1_benchComesFirst_36
    · refine x_iconst hx hb dX1_benchComesFirst_31 ?_
      refine lv_goto (tgt := 36) hx hb dX1_benchComesFirst_32 (by decide) ?_
      exact W.zret (v := _) hx hb hr (by first | rfl | exact nar_b _) (fun t9 ht9 hW9 => ⟨_, rfl, (congrArg zI (by first | exact (bI_t (by omega)).symm | exact (bI_f (by omega)).symm | exact bI_c (by omega))), ht9⟩) (fun _ h => by cases h) dX1_benchComesFirst_36

set_option maxHeartbeats 4000000 in
set_option maxRecDepth 100000 in
/-- BenchBroker$Books.benchesAhead -/
theorem c_benchesAhead (l : Launch) (dg : va_G) (ck : Nat → ClassId) (a : Nat → Nat) (S : St) (b : Int) (hI : Bd S) (hb0 : 0 ≤ b ∧ b < 10) : Met l yX1_benchesAhead (.code yX1_benchesAhead cX1_benchesAhead 4 (some .int) :: GW) ({ frames := 4, cells := 0, slots := 0, locals := 92 }) (va_Pc [.ref (a 0), .int (zI b)] (rdP dg ck (booksC ck a S))) (vp_Si (fun r => r = zI (bAhead S b))) 0 0 (fun _ => False) := by
  refine Met.ofW (cc := cX1_benchesAhead) (maxL := 4) (ret := (some .int)) (by decide) rfl ?_
  intro p e s m args below meth c s₁ B hml hv
  obtain ⟨rfl, hP, hK⟩ := hv
  have hx := B.exec
  have hb := B.bytes
  have hr := B.returns
  have hts := atoms_spec (ws := .code yX1_benchesAhead cX1_benchesAhead 4 (some .int) :: GW) B.pre
  have htg : ∀ w ∈ GW, w.before _ s = true := fun w h => hts w (List.mem_cons_of_mem _ h)
  have hown : s.vm.findClass RX1 = some m.cls := findClass_of_methodNamed B.named
  have hlocks := B.notSynchronized
  have hl := lv_entry ([.ref (a 0), .int (zI b)]) (n := 4) (Nat.le_of_ble_eq_true rfl)
  rw [lg_entry_eq]
  generalize (lg_sl ([.ref (a 0), .int (zI b)]) ++ List.replicate (4 - (lg_sl ([.ref (a 0), .int (zI b)])).length) Slot.unset).toArray = ls at hl ⊢
  have hl : lv_has ls 4 [(0, .ref (a 0)), (1, .int (zI b))] := hl
  obtain ⟨b00, b01, b02, b03, b1, b2, b3, b4, b5, b6, b7, b8, b9, b10, b11, b12⟩ := id hI
  refine x_iconst hx hb dX1_benchesAhead_0 ?_
  refine lv_istore_n (lv' := [(2, .int (zI 0)), (0, .ref (a 0)), (1, .int (zI b))]) hx hb dX1_benchesAhead_1 rfl hl (by decide) rfl (fun ls hl => ?_)
  refine x_iconst hx hb dX1_benchesAhead_2 ?_
  refine lv_istore_n (lv' := [(3, .int (zI 0)), (2, .int (zI 0)), (0, .ref (a 0)), (1, .int (zI b))]) hx hb dX1_benchesAhead_3 rfl hl (by decide) rfl (fun ls hl => ?_)
  refine x_loop (ι := Int × Int) (fun v => (0 ≤ v.2 ∧ v.2 ≤ S 0 0) ∧ v.1 = sumZ (fun o => bI (bFirst S o b)) v.2.toNat) (fun v => (S 0 0 - v.2).toNat) (fun v => [(0, .ref (a 0)), (1, .int (zI b)), (2, .int (zI v.1)), (3, .int (zI v.2))]) (0, 0) (show (0 ≤ (0 : Int) ∧ (0 : Int) ≤ S 0 0) ∧ (0 : Int) = sumZ (fun o => bI (bFirst S o b)) (0 : Int).toNat from ⟨by omega, rfl⟩) (lv_sub hl [2, 3, 1, 0] rfl) ?_
  intro v hv ih_4 ls hl
  obtain ⟨u, i⟩ := v
  have hl : lv_has ls 4 [(0, .ref (a 0)), (1, .int (zI b)), (2, .int (zI u)), (3, .int (zI i))] := hl
  have hv : (0 ≤ i ∧ i ≤ S 0 0) ∧ u = sumZ (fun o => bI (bFirst S o b)) i.toNat := hv
  obtain ⟨hi, hu⟩ := hv
  refine lv_iload_n hx hb dX1_benchesAhead_4 rfl (lv_at hl 3 rfl) ?_
  refine lv_aload_n hx hb dX1_benchesAhead_5 rfl (lv_at hl 0 rfl) ?_
  refine va_get (D := dg) (ci := 4) (v := .ref (a 6)) (C := RX1) (T := TX1) (N := 13) hx hb htg inG_X1 hown hK hP 0 rfl rfl 0 (Nat.le_of_ble_eq_true rfl) (htg _ wq_106) (fun _ h9 => h9) rfl dX1_benchesAhead_6 ?_
  refine va_get (D := dg) (ci := 9) (v := .int (zI (S 0 0))) (C := RX6) (T := TX6) (N := 10) hx hb htg inG_X6 hown hK hP 6 rfl rfl 0 (Nat.le_of_ble_eq_true rfl) (htg _ wq_55) (fun _ h9 => h9) rfl dX1_benchesAhead_9 ?_
  refine x_icmp_ge (tgt := 33) hx hb dX1_benchesAhead_12 (by decide) (by omega) (by omega) (fun c12 => ?_) (fun c12 => ?_)
  · refine lv_iload_n hx hb dX1_benchesAhead_33 rfl (lv_at hl 2 rfl) ?_
    exact W.iret (v := _) hx hb hr (fun t9 ht9 hW9 => ⟨_, rfl, (by rw [hu, show i = S 0 0 by omega]; rfl), ht9⟩) (fun _ h => by cases h) dX1_benchesAhead_34
  · refine lv_aload_n hx hb dX1_benchesAhead_15 rfl (lv_at hl 0 rfl) ?_
    refine lv_iload_n hx hb dX1_benchesAhead_16 rfl (lv_at hl 3 rfl) ?_
    refine lv_iload_n hx hb dX1_benchesAhead_17 rfl (lv_at hl 1 rfl) ?_
    refine vp_callSi (W.runV (As := [.int (zI i), .int (zI b)]) (rest := []) ⟨hx, hb, hml, hown, htg⟩ (c_benchComesFirst l dg ck a S i b hI (by omega) (by omega)) (cwV 2 htg (gwV wq_1390 wq_1392 wp_22 wq_2 wq_1393) rfl rfl rfl (by decide +kernel) ⟨Nat.le_of_ble_eq_true rfl, Nat.le_of_ble_eq_true rfl⟩) (rd_preV hK hP 0 4 rfl rfl) rfl rfl hl.1 rfl (lv_room (Nat.le_of_ble_eq_true rfl)) dX1_benchesAhead_18 ⟨Nat.zero_le _, Nat.zero_le _⟩) (fun r18 hr18 => ?_)
    subst hr18
    refine x_bz_eq (tgt := 27) hx hb dX1_benchesAhead_21 (by decide) (fun c21 => ?_) (fun c21 => ?_)
    · obtain ⟨v27, e_v27⟩ : ∃ y : Int, y = i + 1 := ⟨_, rfl⟩
      refine lv_iinc (v := zI v27) (lv' := [(3, .int (zI v27)), (0, .ref (a 0)), (1, .int (zI b)), (2, .int (zI u))]) hx hb dX1_benchesAhead_27 hl (k := 3) rfl (by rw [e_v27]; exact zI_add _ _) (by decide) rfl (fun ls hl => ?_)
      refine lv_goto (tgt := 4) hx hb dX1_benchesAhead_30 (by decide) ?_
      exact ih_4 (u, v27) (show (0 ≤ v27 ∧ v27 ≤ S 0 0) ∧ u = sumZ (fun o => bI (bFirst S o b)) v27.toNat from ⟨by omega, (by rw [e_v27, sumZ_s hi.1, ← hu]; first | (rw [bI_t c21]; exact e_v24) | (rw [bI_f c21]; omega))⟩) (show (S 0 0 - v27).toNat < (S 0 0 - i).toNat from by omega) ls (lv_sub hl [1, 2, 3, 0] rfl)
    · obtain ⟨v24, e_v24⟩ : ∃ y : Int, y = u + 1 := ⟨_, rfl⟩
      refine lv_iinc (v := zI v24) (lv' := [(2, .int (zI v24)), (0, .ref (a 0)), (1, .int (zI b)), (3, .int (zI i))]) hx hb dX1_benchesAhead_24 hl (k := 2) rfl (by rw [e_v24]; exact zI_add _ _) (by decide) rfl (fun ls hl => ?_)
      obtain ⟨v27, e_v27⟩ : ∃ y : Int, y = i + 1 := ⟨_, rfl⟩
      refine lv_iinc (v := zI v27) (lv' := [(3, .int (zI v27)), (2, .int (zI v24)), (0, .ref (a 0)), (1, .int (zI b))]) hx hb dX1_benchesAhead_27 hl (k := 3) rfl (by rw [e_v27]; exact zI_add _ _) (by decide) rfl (fun ls hl => ?_)
      refine lv_goto (tgt := 4) hx hb dX1_benchesAhead_30 (by decide) ?_
      exact ih_4 (v24, v27) (show (0 ≤ v27 ∧ v27 ≤ S 0 0) ∧ v24 = sumZ (fun o => bI (bFirst S o b)) v27.toNat from ⟨by omega, (by rw [e_v27, sumZ_s hi.1, ← hu]; first | (rw [bI_t c21]; exact e_v24) | (rw [bI_f c21]; omega))⟩) (show (S 0 0 - v27).toNat < (S 0 0 - i).toNat from by omega) ls (lv_sub hl [2, 3, 1, 0] rfl)

set_option maxHeartbeats 4000000 in
set_option maxRecDepth 100000 in
/-- BenchBroker$Books.tenantComesFirst -/
theorem c_tenantComesFirst (l : Launch) (dg : va_G) (ck : Nat → ClassId) (a : Nat → Nat) (S : St) (x y : Int) (hI : Bd S) (hx0 : 0 ≤ x ∧ x < 8) (hy0 : 0 ≤ y ∧ y < 8) : Met l yX1_tenantComesFirst (.code yX1_tenantComesFirst cX1_tenantComesFirst 3 (some .boolean) :: GW) ({ frames := 0, cells := 0, slots := 0, locals := 0 }) (va_Pc [.ref (a 0), .int (zI x), .int (zI y)] (rdP dg ck (booksC ck a S))) (vp_Si (fun r => r = zI (bI (tFirst S x y)))) 0 0 (fun _ => False) := by
  refine Met.ofW (cc := cX1_tenantComesFirst) (maxL := 3) (ret := (some .boolean)) (by decide) rfl ?_
  intro p e s m args below meth c s₁ B hml hv
  obtain ⟨rfl, hP, hK⟩ := hv
  have hx := B.exec
  have hb := B.bytes
  have hr := B.returns
  have hts := atoms_spec (ws := .code yX1_tenantComesFirst cX1_tenantComesFirst 3 (some .boolean) :: GW) B.pre
  have htg : ∀ w ∈ GW, w.before _ s = true := fun w h => hts w (List.mem_cons_of_mem _ h)
  have hown : s.vm.findClass RX1 = some m.cls := findClass_of_methodNamed B.named
  have hlocks := B.notSynchronized
  have hl := lv_entry ([.ref (a 0), .int (zI x), .int (zI y)]) (n := 3) (Nat.le_of_ble_eq_true rfl)
  rw [lg_entry_eq]
  generalize (lg_sl ([.ref (a 0), .int (zI x), .int (zI y)]) ++ List.replicate (3 - (lg_sl ([.ref (a 0), .int (zI x), .int (zI y)])).length) Slot.unset).toArray = ls at hl ⊢
  have hl : lv_has ls 3 [(0, .ref (a 0)), (1, .int (zI x)), (2, .int (zI y))] := hl
  obtain ⟨b00, b01, b02, b03, b1, b2, b3, b4, b5, b6, b7, b8, b9, b10, b11, b12⟩ := id hI
  refine lv_aload_n hx hb dX1_tenantComesFirst_0 rfl (lv_at hl 0 rfl) ?_
  refine va_get (D := dg) (ci := 4) (v := .ref (a 1)) (C := RX1) (T := TX1) (N := 13) hx hb htg inG_X1 hown hK hP 0 rfl rfl 2 (Nat.le_of_ble_eq_true rfl) (htg _ wq_110) (fun _ h9 => h9) rfl dX1_tenantComesFirst_1 ?_
  refine lv_iload_n hx hb dX1_tenantComesFirst_4 rfl (lv_at hl 1 rfl) ?_
  refine x_iald hx hb hK hP 1 0 (S 11) rfl rfl (fun _ => rfl) (P := fun y => 0 ≤ y ∧ y ≤ 4000000) b11 (by decide) (by omega) dX1_tenantComesFirst_5 (fun g5 => ?_)
  refine lv_aload_n hx hb dX1_tenantComesFirst_6 rfl (lv_at hl 0 rfl) ?_
  refine va_get (D := dg) (ci := 4) (v := .ref (a 1)) (C := RX1) (T := TX1) (N := 13) hx hb htg inG_X1 hown hK hP 0 rfl rfl 2 (Nat.le_of_ble_eq_true rfl) (htg _ wq_110) (fun _ h9 => h9) rfl dX1_tenantComesFirst_7 ?_
  refine lv_iload_n hx hb dX1_tenantComesFirst_10 rfl (lv_at hl 2 rfl) ?_
  refine x_iald hx hb hK hP 1 0 (S 11) rfl rfl (fun _ => rfl) (P := fun y => 0 ≤ y ∧ y ≤ 4000000) b11 (by decide) (by omega) dX1_tenantComesFirst_11 (fun g11 => ?_)
  refine x_icmp_eq (tgt := 36) hx hb dX1_tenantComesFirst_12 (by decide) (by omega) (by omega) (fun c12 => ?_) (fun c12 => ?_)
  · refine lv_aload_n hx hb dX1_tenantComesFirst_36 rfl (lv_at hl 0 rfl) ?_
    refine va_get (D := dg) (ci := 4) (v := .ref (a 2)) (C := RX1) (T := TX1) (N := 13) hx hb htg inG_X1 hown hK hP 0 rfl rfl 3 (Nat.le_of_ble_eq_true rfl) (htg _ wq_112) (fun _ h9 => h9) rfl dX1_tenantComesFirst_37 ?_
    refine lv_iload_n hx hb dX1_tenantComesFirst_40 rfl (lv_at hl 1 rfl) ?_
    refine x_iald hx hb hK hP 2 0 (S 12) rfl rfl (fun _ => rfl) (P := fun y => 0 ≤ y ∧ y ≤ 3) b12 (by decide) (by omega) dX1_tenantComesFirst_41 (fun g41 => ?_)
    refine lv_aload_n hx hb dX1_tenantComesFirst_42 rfl (lv_at hl 0 rfl) ?_
    refine va_get (D := dg) (ci := 4) (v := .ref (a 2)) (C := RX1) (T := TX1) (N := 13) hx hb htg inG_X1 hown hK hP 0 rfl rfl 3 (Nat.le_of_ble_eq_true rfl) (htg _ wq_112) (fun _ h9 => h9) rfl dX1_tenantComesFirst_43 ?_
    refine lv_iload_n hx hb dX1_tenantComesFirst_46 rfl (lv_at hl 2 rfl) ?_
    refine x_iald hx hb hK hP 2 0 (S 12) rfl rfl (fun _ => rfl) (P := fun y => 0 ≤ y ∧ y ≤ 3) b12 (by decide) (by omega) dX1_tenantComesFirst_47 (fun g47 => ?_)
    refine x_icmp_eq (tgt := 72) hx hb dX1_tenantComesFirst_48 (by decide) (by omega) (by omega) (fun c48 => ?_) (fun c48 => ?_)
    · refine lv_iload_n hx hb dX1_tenantComesFirst_72 rfl (lv_at hl 1 rfl) ?_
      refine lv_iload_n hx hb dX1_tenantComesFirst_73 rfl (lv_at hl 2 rfl) ?_
      refine x_icmp_ge (tgt := 81) hx hb dX1_tenantComesFirst_74 (by decide) (by omega) (by omega) (fun c74 => ?_) (fun c74 => ?_)
      · refine x_iconst hx hb dX1_tenantComesFirst_81 ?_
        exact W.zret (v := _) hx hb hr (by first | rfl | rfl) (fun t9 ht9 hW9 => ⟨_, rfl, (congrArg zI (by first | exact (bI_t (by omega)).symm | exact (bI_f (by omega)).symm)), ht9⟩) (fun _ h => by cases h) dX1_tenantComesFirst_82
      · refine x_iconst hx hb dX1_tenantComesFirst_77 ?_
        refine lv_goto (tgt := 82) hx hb dX1_tenantComesFirst_78 (by decide) ?_
        exact W.zret (v := _) hx hb hr (by first | rfl | rfl) (fun t9 ht9 hW9 => ⟨_, rfl, (congrArg zI (by first | exact (bI_t (by omega)).symm | exact (bI_f (by omega)).symm)), ht9⟩) (fun _ h => by cases h) dX1_tenantComesFirst_82
    · refine lv_aload_n hx hb dX1_tenantComesFirst_51 rfl (lv_at hl 0 rfl) ?_
      refine va_get (D := dg) (ci := 4) (v := .ref (a 2)) (C := RX1) (T := TX1) (N := 13) hx hb htg inG_X1 hown hK hP 0 rfl rfl 3 (Nat.le_of_ble_eq_true rfl) (htg _ wq_112) (fun _ h9 => h9) rfl dX1_tenantComesFirst_52 ?_
      refine lv_iload_n hx hb dX1_tenantComesFirst_55 rfl (lv_at hl 1 rfl) ?_
      refine x_iald hx hb hK hP 2 0 (S 12) rfl rfl (fun _ => rfl) (P := fun y => 0 ≤ y ∧ y ≤ 3) b12 (by decide) (by omega) dX1_tenantComesFirst_56 (fun g56 => ?_)
      refine lv_aload_n hx hb dX1_tenantComesFirst_57 rfl (lv_at hl 0 rfl) ?_
      refine va_get (D := dg) (ci := 4) (v := .ref (a 2)) (C := RX1) (T := TX1) (N := 13) hx hb htg inG_X1 hown hK hP 0 rfl rfl 3 (Nat.le_of_ble_eq_true rfl) (htg _ wq_112) (fun _ h9 => h9) rfl dX1_tenantComesFirst_58 ?_
      refine lv_iload_n hx hb dX1_tenantComesFirst_61 rfl (lv_at hl 2 rfl) ?_
      refine x_iald hx hb hK hP 2 0 (S 12) rfl rfl (fun _ => rfl) (P := fun y => 0 ≤ y ∧ y ≤ 3) b12 (by decide) (by omega) dX1_tenantComesFirst_62 (fun g62 => ?_)
      refine x_icmp_ge (tgt := 70) hx hb dX1_tenantComesFirst_63 (by decide) (by omega) (by omega) (fun c63 => ?_) (fun c63 => ?_)
      · refine x_iconst hx hb dX1_tenantComesFirst_70 ?_
        exact W.zret (v := _) hx hb hr (by first | rfl | rfl) (fun t9 ht9 hW9 => ⟨_, rfl, (congrArg zI (by first | exact (bI_t (by omega)).symm | exact (bI_f (by omega)).symm)), ht9⟩) (fun _ h => by cases h) dX1_tenantComesFirst_71
      · refine x_iconst hx hb dX1_tenantComesFirst_66 ?_
        refine lv_goto (tgt := 71) hx hb dX1_tenantComesFirst_67 (by decide) ?_
        exact W.zret (v := _) hx hb hr (by first | rfl | rfl) (fun t9 ht9 hW9 => ⟨_, rfl, (congrArg zI (by first | exact (bI_t (by omega)).symm | exact (bI_f (by omega)).symm)), ht9⟩) (fun _ h => by cases h) dX1_tenantComesFirst_71
  · refine lv_aload_n hx hb dX1_tenantComesFirst_15 rfl (lv_at hl 0 rfl) ?_
    refine va_get (D := dg) (ci := 4) (v := .ref (a 1)) (C := RX1) (T := TX1) (N := 13) hx hb htg inG_X1 hown hK hP 0 rfl rfl 2 (Nat.le_of_ble_eq_true rfl) (htg _ wq_110) (fun _ h9 => h9) rfl dX1_tenantComesFirst_16 ?_
    refine lv_iload_n hx hb dX1_tenantComesFirst_19 rfl (lv_at hl 1 rfl) ?_
    refine x_iald hx hb hK hP 1 0 (S 11) rfl rfl (fun _ => rfl) (P := fun y => 0 ≤ y ∧ y ≤ 4000000) b11 (by decide) (by omega) dX1_tenantComesFirst_20 (fun g20 => ?_)
    refine lv_aload_n hx hb dX1_tenantComesFirst_21 rfl (lv_at hl 0 rfl) ?_
    refine va_get (D := dg) (ci := 4) (v := .ref (a 1)) (C := RX1) (T := TX1) (N := 13) hx hb htg inG_X1 hown hK hP 0 rfl rfl 2 (Nat.le_of_ble_eq_true rfl) (htg _ wq_110) (fun _ h9 => h9) rfl dX1_tenantComesFirst_22 ?_
    refine lv_iload_n hx hb dX1_tenantComesFirst_25 rfl (lv_at hl 2 rfl) ?_
    refine x_iald hx hb hK hP 1 0 (S 11) rfl rfl (fun _ => rfl) (P := fun y => 0 ≤ y ∧ y ≤ 4000000) b11 (by decide) (by omega) dX1_tenantComesFirst_26 (fun g26 => ?_)
    refine x_icmp_le (tgt := 34) hx hb dX1_tenantComesFirst_27 (by decide) (by omega) (by omega) (fun c27 => ?_) (fun c27 => ?_)
    · refine x_iconst hx hb dX1_tenantComesFirst_34 ?_
      exact W.zret (v := _) hx hb hr (by first | rfl | rfl) (fun t9 ht9 hW9 => ⟨_, rfl, (congrArg zI (by first | exact (bI_t (by omega)).symm | exact (bI_f (by omega)).symm)), ht9⟩) (fun _ h => by cases h) dX1_tenantComesFirst_35
    · refine x_iconst hx hb dX1_tenantComesFirst_30 ?_
      refine lv_goto (tgt := 35) hx hb dX1_tenantComesFirst_31 (by decide) ?_
      exact W.zret (v := _) hx hb hr (by first | rfl | rfl) (fun t9 ht9 hW9 => ⟨_, rfl, (congrArg zI (by first | exact (bI_t (by omega)).symm | exact (bI_f (by omega)).symm)), ht9⟩) (fun _ h => by cases h) dX1_tenantComesFirst_35

set_option maxHeartbeats 4000000 in
set_option maxRecDepth 100000 in
/-- BenchBroker$Books.tenantsAhead -/
theorem c_tenantsAhead (l : Launch) (dg : va_G) (ck : Nat → ClassId) (a : Nat → Nat) (S : St) (t : Int) (hI : Bd S) (ht0 : 0 ≤ t ∧ t < 8) : Met l yX1_tenantsAhead (.code yX1_tenantsAhead cX1_tenantsAhead 4 (some .int) :: GW) ({ frames := 1, cells := 0, slots := 0, locals := 22 }) (va_Pc [.ref (a 0), .int (zI t)] (rdP dg ck (booksC ck a S))) (vp_Si (fun r => r = zI (tAhead S t))) 0 0 (fun _ => False) := by
  refine Met.ofW (cc := cX1_tenantsAhead) (maxL := 4) (ret := (some .int)) (by decide) rfl ?_
  intro p e s m args below meth c s₁ B hml hv
  obtain ⟨rfl, hP, hK⟩ := hv
  have hx := B.exec
  have hb := B.bytes
  have hr := B.returns
  have hts := atoms_spec (ws := .code yX1_tenantsAhead cX1_tenantsAhead 4 (some .int) :: GW) B.pre
  have htg : ∀ w ∈ GW, w.before _ s = true := fun w h => hts w (List.mem_cons_of_mem _ h)
  have hown : s.vm.findClass RX1 = some m.cls := findClass_of_methodNamed B.named
  have hlocks := B.notSynchronized
  have hl := lv_entry ([.ref (a 0), .int (zI t)]) (n := 4) (Nat.le_of_ble_eq_true rfl)
  rw [lg_entry_eq]
  generalize (lg_sl ([.ref (a 0), .int (zI t)]) ++ List.replicate (4 - (lg_sl ([.ref (a 0), .int (zI t)])).length) Slot.unset).toArray = ls at hl ⊢
  have hl : lv_has ls 4 [(0, .ref (a 0)), (1, .int (zI t))] := hl
  obtain ⟨b00, b01, b02, b03, b1, b2, b3, b4, b5, b6, b7, b8, b9, b10, b11, b12⟩ := id hI
  refine x_iconst hx hb dX1_tenantsAhead_0 ?_
  refine lv_istore_n (lv' := [(2, .int (zI 0)), (0, .ref (a 0)), (1, .int (zI t))]) hx hb dX1_tenantsAhead_1 rfl hl (by decide) rfl (fun ls hl => ?_)
  refine x_iconst hx hb dX1_tenantsAhead_2 ?_
  refine lv_istore_n (lv' := [(3, .int (zI 0)), (2, .int (zI 0)), (0, .ref (a 0)), (1, .int (zI t))]) hx hb dX1_tenantsAhead_3 rfl hl (by decide) rfl (fun ls hl => ?_)
  refine x_loop (ι := Int × Int) (fun v => (0 ≤ v.2 ∧ v.2 ≤ S 0 2) ∧ v.1 = sumZ (fun o => bI (tFirst S o t)) v.2.toNat) (fun v => (S 0 2 - v.2).toNat) (fun v => [(0, .ref (a 0)), (1, .int (zI t)), (2, .int (zI v.1)), (3, .int (zI v.2))]) (0, 0) (show (0 ≤ (0 : Int) ∧ (0 : Int) ≤ S 0 2) ∧ (0 : Int) = sumZ (fun o => bI (tFirst S o t)) (0 : Int).toNat from ⟨by omega, rfl⟩) (lv_sub hl [2, 3, 1, 0] rfl) ?_
  intro v hv ih_4 ls hl
  obtain ⟨u, i⟩ := v
  have hl : lv_has ls 4 [(0, .ref (a 0)), (1, .int (zI t)), (2, .int (zI u)), (3, .int (zI i))] := hl
  have hv : (0 ≤ i ∧ i ≤ S 0 2) ∧ u = sumZ (fun o => bI (tFirst S o t)) i.toNat := hv
  obtain ⟨hi, hu⟩ := hv
  refine lv_iload_n hx hb dX1_tenantsAhead_4 rfl (lv_at hl 3 rfl) ?_
  refine lv_aload_n hx hb dX1_tenantsAhead_5 rfl (lv_at hl 0 rfl) ?_
  refine va_get (D := dg) (ci := 4) (v := .int (zI (S 0 2))) (C := RX1) (T := TX1) (N := 13) hx hb htg inG_X1 hown hK hP 0 rfl rfl 1 (Nat.le_of_ble_eq_true rfl) (htg _ wq_108) (fun _ h9 => h9) rfl dX1_tenantsAhead_6 ?_
  refine x_icmp_ge (tgt := 30) hx hb dX1_tenantsAhead_9 (by decide) (by omega) (by omega) (fun c9 => ?_) (fun c9 => ?_)
  · refine lv_iload_n hx hb dX1_tenantsAhead_30 rfl (lv_at hl 2 rfl) ?_
    exact W.iret (v := _) hx hb hr (fun t9 ht9 hW9 => ⟨_, rfl, (by rw [hu, show i = S 0 2 by omega]; rfl), ht9⟩) (fun _ h => by cases h) dX1_tenantsAhead_31
  · refine lv_aload_n hx hb dX1_tenantsAhead_12 rfl (lv_at hl 0 rfl) ?_
    refine lv_iload_n hx hb dX1_tenantsAhead_13 rfl (lv_at hl 3 rfl) ?_
    refine lv_iload_n hx hb dX1_tenantsAhead_14 rfl (lv_at hl 1 rfl) ?_
    refine vp_callSi (W.runV (As := [.int (zI i), .int (zI t)]) (rest := []) ⟨hx, hb, hml, hown, htg⟩ (c_tenantComesFirst l dg ck a S i t hI (by omega) (by omega)) (cwV 2 htg (gwV wq_1419 wq_1421 wp_23 wq_2 wq_1422) rfl rfl rfl (by decide +kernel) ⟨Nat.le_of_ble_eq_true rfl, Nat.le_of_ble_eq_true rfl⟩) (rd_preV hK hP 0 4 rfl rfl) rfl rfl hl.1 rfl (lv_room (Nat.le_of_ble_eq_true rfl)) dX1_tenantsAhead_15 ⟨Nat.zero_le _, Nat.zero_le _⟩) (fun r15 hr15 => ?_)
    subst hr15
    refine x_bz_eq (tgt := 24) hx hb dX1_tenantsAhead_18 (by decide) (fun c18 => ?_) (fun c18 => ?_)
    · obtain ⟨v24, e_v24⟩ : ∃ y : Int, y = i + 1 := ⟨_, rfl⟩
      refine lv_iinc (v := zI v24) (lv' := [(3, .int (zI v24)), (0, .ref (a 0)), (1, .int (zI t)), (2, .int (zI u))]) hx hb dX1_tenantsAhead_24 hl (k := 3) rfl (by rw [e_v24]; exact zI_add _ _) (by decide) rfl (fun ls hl => ?_)
      refine lv_goto (tgt := 4) hx hb dX1_tenantsAhead_27 (by decide) ?_
      exact ih_4 (u, v24) (show (0 ≤ v24 ∧ v24 ≤ S 0 2) ∧ u = sumZ (fun o => bI (tFirst S o t)) v24.toNat from ⟨by omega, (by rw [e_v24, sumZ_s hi.1, ← hu]; first | (rw [bI_t c18]; exact e_v21) | (rw [bI_f c18]; omega))⟩) (show (S 0 2 - v24).toNat < (S 0 2 - i).toNat from by omega) ls (lv_sub hl [1, 2, 3, 0] rfl)
    · obtain ⟨v21, e_v21⟩ : ∃ y : Int, y = u + 1 := ⟨_, rfl⟩
      refine lv_iinc (v := zI v21) (lv' := [(2, .int (zI v21)), (0, .ref (a 0)), (1, .int (zI t)), (3, .int (zI i))]) hx hb dX1_tenantsAhead_21 hl (k := 2) rfl (by rw [e_v21]; exact zI_add _ _) (by decide) rfl (fun ls hl => ?_)
      obtain ⟨v24, e_v24⟩ : ∃ y : Int, y = i + 1 := ⟨_, rfl⟩
      refine lv_iinc (v := zI v24) (lv' := [(3, .int (zI v24)), (2, .int (zI v21)), (0, .ref (a 0)), (1, .int (zI t))]) hx hb dX1_tenantsAhead_24 hl (k := 3) rfl (by rw [e_v24]; exact zI_add _ _) (by decide) rfl (fun ls hl => ?_)
      refine lv_goto (tgt := 4) hx hb dX1_tenantsAhead_27 (by decide) ?_
      exact ih_4 (v21, v24) (show (0 ≤ v24 ∧ v24 ≤ S 0 2) ∧ v21 = sumZ (fun o => bI (tFirst S o t)) v24.toNat from ⟨by omega, (by rw [e_v24, sumZ_s hi.1, ← hu]; first | (rw [bI_t c18]; exact e_v21) | (rw [bI_f c18]; omega))⟩) (show (S 0 2 - v24).toNat < (S 0 2 - i).toNat from by omega) ls (lv_sub hl [2, 3, 1, 0] rfl)
