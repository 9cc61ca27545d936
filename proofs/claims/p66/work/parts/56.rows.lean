/-! rows for the law's own methods -/
section LWR
variable {p : Program} {l : Launch} {e : Env} {R : Room} {s : State} {m : MethodId} {args : Array Value} {below : List Frame} {meth : Method} {c : Code} {H : Heap} {locs : List Loc} {cells slots : Nat} {Q : State → Prop}
variable {cc : ByteArray} {pc : Nat} {ls : Array Slot} {rest : List Value} {D : va_G} {cl : List vw_C} {A : Nat → Prop} {a : Nat} {tys : List (ClassId × FieldType)} {ws ws' : va_W} {H0 : Heap}
theorem W.as {k k' n n' : Nat} {g : JFrame} (hk : k = k') (hn : n = n') (h : W p l e R s m args below meth c H locs k' n' Q g) : W p l e R s m args below meth c H locs k n Q g := by
  subst hk hn
  exact h
theorem x_loopN {ι : Type} {nL : Nat} (I : ι → Prop) (μ : ι → Nat) (L : ι → List (Nat × Value)) (wv : ι → va_W) (cf sf : ι → Nat) (v0 : ι) (h0 : I v0) (hl0 : lv_has ls nL (L v0)) (hP0 : va_P D cl (wv v0) H) (hD0 : va_D A (wv v0)) (hS0 : va_S A H0 H locs) (hc0 : cells ≤ cf v0) (hs0 : slots ≤ sf v0)
    (hs : ∀ v, I v → (∀ v', I v' → μ v' < μ v → ∀ (ls : Array Slot) (H : Heap) (locs : List Loc), lv_has ls nL (L v') → va_P D cl (wv v') H → va_D A (wv v') → va_S A H0 H locs → W p l e R s m args below meth c H locs (cf v') (sf v') Q (F0 m pc ls rest)) → ∀ (ls : Array Slot) (H : Heap) (locs : List Loc), lv_has ls nL (L v) → va_P D cl (wv v) H → va_D A (wv v) → va_S A H0 H locs → W p l e R s m args below meth c H locs (cf v) (sf v) Q (F0 m pc ls rest)) :
    W p l e R s m args below meth c H locs cells slots Q (F0 m pc ls rest) := by
  have key : ∀ (n : Nat) (v : ι), μ v < n → I v → ∀ (ls : Array Slot) (H : Heap) (locs : List Loc), lv_has ls nL (L v) → va_P D cl (wv v) H → va_D A (wv v) → va_S A H0 H locs → W p l e R s m args below meth c H locs (cf v) (sf v) Q (F0 m pc ls rest) := by
    intro n
    induction n with
    | zero => exact fun v h => absurd h (Nat.not_lt_zero _)
    | succ n ih => exact fun v hm hv => hs v hv (fun v' h1 h2 => ih v' (by omega) h1)
  exact W.widen hc0 hs0 (key _ v0 (Nat.lt_succ_self _) h0 ls H locs hl0 hP0 hD0 hS0)
theorem x_midN {ι : Type} {nL : Nat} (I : ι → Prop) (L : ι → List (Nat × Value)) (st : ι → List Value) (wv : ι → va_W) (pcJ cM sM : Nat) {ls0 : Array Slot} {st0 : List Value}
    (hj : ∀ v, I v → ∀ (ls : Array Slot) (H : Heap) (locs : List Loc), lv_has ls nL (L v) → va_P D cl (wv v) H → va_D A (wv v) → va_S A H0 H locs → W p l e R s m args below meth c H locs cM sM Q (F0 m pcJ ls (st v)))
    (k : (∀ v, I v → ∀ (ls : Array Slot) (H : Heap) (locs : List Loc), lv_has ls nL (L v) → va_P D cl (wv v) H → va_D A (wv v) → va_S A H0 H locs → W p l e R s m args below meth c H locs cM sM Q (F0 m pcJ ls (st v))) → W p l e R s m args below meth c H locs cells slots Q (F0 m pc ls0 st0)) :
    W p l e R s m args below meth c H locs cells slots Q (F0 m pc ls0 st0) := k hj
theorem x_iushr1 (hexec : p.tables.exec = Jvm.exec) (hb : c.code = cc) {x : Int} (hdg : decode cc pc = .ok (.iushr, 1)) (k : ∀ v : Int, 0 ≤ v → v < 2147483648 → W p l e R s m args below meth c H locs cells slots Q (F0 m (pc + 1) ls (.int (zI v) :: rest))) : W p l e R s m args below meth c H locs cells slots Q (F0 m pc ls (.int (zI 1) :: .int (zI x) :: rest)) := by
  refine lv_iushr hexec hb hdg rfl ?_
  have h : ((zI x).toUInt32 >>> ((zI 1).toUInt32 &&& Int32.toUInt32 31)).toInt32 = zI (((zI x).toUInt32 >>> ((zI 1).toUInt32 &&& Int32.toUInt32 31)).toNat : Int) := by
    apply Int32.toBitVec_inj.mp
    apply BitVec.eq_of_toNat_eq
    show ((zI x).toUInt32 >>> ((zI 1).toUInt32 &&& Int32.toUInt32 31)).toNat = (BitVec.ofInt 32 (((zI x).toUInt32 >>> ((zI 1).toUInt32 &&& Int32.toUInt32 31)).toNat : Int)).toNat
    have hlt := ((zI x).toUInt32 >>> ((zI 1).toUInt32 &&& Int32.toUInt32 31)).toNat_lt
    rw [BitVec.toNat_ofInt]
    omega
  rw [h]
  refine k _ (by omega) ?_
  have e1 : (zI 1).toUInt32 &&& Int32.toUInt32 31 = 1 := by decide +kernel
  rw [e1, UInt32.toNat_shiftRight]
  have h2 := (zI x).toUInt32.toNat_lt
  have e2 : (1 : UInt32).toNat % 32 = 1 := by decide +kernel
  rw [e2, Nat.shiftRight_eq_div_pow]
  omega
end LWR

section LWU
variable {p : Program} {l : Launch} {e : Env} {R : Room} {s : State} {m : MethodId} {args : Array Value} {below : List Frame} {meth : Method} {c : Code} {H : Heap} {locs : List Loc} {cells slots : Nat} {Q : State → Prop}
variable {pc : Nat} {ls : Array Slot} {rest st0 : List Value} {a : Array Value} {A0 : Nat → Prop} {H0 : Heap} {mc ms : Nat} {dg : va_G} {ws M N : va_W}
theorem x_calllU {U : Type} {post : Int64 → U → Prop} {Mf : U → va_W} (hP : va_P dg vwCl M H) (hD : va_D A0 M) (hS : va_S A0 H0 H locs) (hA : ∀ q, H0.size ≤ q → A0 q)
    (hr : va_Run p l e R s m args below meth c H locs cells slots mc ms (F0 m pc ls st0) rest (va_Ql post (fun u t => wrQ dg H.size M (Mf u) t) (va_A M H.size) a) (va_A M H.size))
    (kk : ∀ (r : Int64) (u : U) (H1 : Heap) (locs1 : List Loc), post r u → va_P dg vwCl (Mf u) H1 → va_D A0 (Mf u) → va_S A0 H0 H1 locs1 → W p l e R s m args below meth c H1 locs1 (cells + mc) (slots + ms) Q (F0 m (pc + 3) ls (.long r :: rest))) : W p l e R s m args below meth c H locs cells slots Q (F0 m pc ls st0) := by
  have hF := fr_F1 hD hS hA
  refine va_calll hr hS (fun q _ h => hF q h) hF (fun r u t H1 locs1 ht hvm hw hB hz1 hk1 hS1 => ?_)
  obtain ⟨hP1, hD1⟩ := hB
  rw [ht] at hP1
  exact kk r u H1 locs1 hw hP1 (hD1.weaken (fun k q _ h => hF q.1 h)) hS1
theorem x_calllUB {U : Type} {post : Int64 → U → Prop} {Mf wf : U → va_W} (e1 : ws.Perm (M ++ N)) (e2 : ∀ u, (wf u).Perm (Mf u ++ N)) (hP : va_P dg vwCl ws H) (hD : va_D A0 ws) (hS : va_S A0 H0 H locs) (hA : ∀ q, H0.size ≤ q → A0 q)
    (hr : va_P dg vwCl M H → va_D A0 M → va_Run p l e R s m args below meth c H locs cells slots mc ms (F0 m pc ls st0) rest (va_Ql post (fun u t => wrQ dg H.size M (Mf u) t) (va_A M H.size) a) (va_A M H.size))
    (kk : ∀ (r : Int64) (u : U) (H1 : Heap) (locs1 : List Loc), post r u → va_P dg vwCl (wf u) H1 → va_D A0 (wf u) → va_S A0 H0 H1 locs1 → W p l e R s m args below meth c H1 locs1 (cells + mc) (slots + ms) Q (F0 m (pc + 3) ls (.long r :: rest))) : W p l e R s m args below meth c H locs cells slots Q (F0 m pc ls st0) := by
  have hP' : va_P dg vwCl ([] ++ (M ++ N)) H := va_P_perm e1 hP
  have hD' : va_D A0 ([] ++ (M ++ N)) := va_D_perm e1 hD
  have hF := fr_F (dg := dg) (L := []) (M := M) (N := N) hD' hS hA
  refine va_calll (hr (va_P_l hP') (va_D_l hD')) hS (fun q _ h => hF q h) hF (fun r u t H1 locs1 ht hvm hw hB hz1 hk1 hS1 => ?_)
  obtain ⟨hP1, hD1⟩ := hB
  rw [ht] at hP1
  obtain ⟨g1, g2⟩ := fr_mid hP' hD' hk1 hF hP1 hD1
  exact kk r u H1 locs1 hw (va_P_perm (e2 u).symm g1) (va_D_perm (e2 u).symm g2) hS1
theorem x_calldU {U : Type} {post : UInt64 → U → Prop} {Mf : U → va_W} (hP : va_P dg vwCl M H) (hD : va_D A0 M) (hS : va_S A0 H0 H locs) (hA : ∀ q, H0.size ≤ q → A0 q)
    (hr : va_Run p l e R s m args below meth c H locs cells slots mc ms (F0 m pc ls st0) rest (va_Qd post (fun u t => wrQ dg H.size M (Mf u) t) (va_A M H.size) a) (va_A M H.size))
    (kk : ∀ (r : UInt64) (u : U) (H1 : Heap) (locs1 : List Loc), post r u → va_P dg vwCl (Mf u) H1 → va_D A0 (Mf u) → va_S A0 H0 H1 locs1 → W p l e R s m args below meth c H1 locs1 (cells + mc) (slots + ms) Q (F0 m (pc + 3) ls (.double r :: rest))) : W p l e R s m args below meth c H locs cells slots Q (F0 m pc ls st0) := by
  have hF := fr_F1 hD hS hA
  refine va_calld hr hS (fun q _ h => hF q h) hF (fun r u t H1 locs1 ht hvm hw hB hz1 hk1 hS1 => ?_)
  obtain ⟨hP1, hD1⟩ := hB
  rw [ht] at hP1
  exact kk r u H1 locs1 hw hP1 (hD1.weaken (fun k q _ h => hF q.1 h)) hS1
theorem x_callfU {U : Type} {post : UInt32 → U → Prop} {Mf : U → va_W} (hP : va_P dg vwCl M H) (hD : va_D A0 M) (hS : va_S A0 H0 H locs) (hA : ∀ q, H0.size ≤ q → A0 q)
    (hr : va_Run p l e R s m args below meth c H locs cells slots mc ms (F0 m pc ls st0) rest (va_Qf post (fun u t => wrQ dg H.size M (Mf u) t) (va_A M H.size) a) (va_A M H.size))
    (kk : ∀ (r : UInt32) (u : U) (H1 : Heap) (locs1 : List Loc), post r u → va_P dg vwCl (Mf u) H1 → va_D A0 (Mf u) → va_S A0 H0 H1 locs1 → W p l e R s m args below meth c H1 locs1 (cells + mc) (slots + ms) Q (F0 m (pc + 3) ls (.float r :: rest))) : W p l e R s m args below meth c H locs cells slots Q (F0 m pc ls st0) := by
  have hF := fr_F1 hD hS hA
  refine va_callf hr hS (fun q _ h => hF q h) hF (fun r u t H1 locs1 ht hvm hw hB hz1 hk1 hS1 => ?_)
  obtain ⟨hP1, hD1⟩ := hB
  rw [ht] at hP1
  exact kk r u H1 locs1 hw hP1 (hD1.weaken (fun k q _ h => hF q.1 h)) hS1
end LWU
section LWT
variable {p : Program} {l : Launch} {e : Env} {R : Room} {s : State} {m : MethodId} {args : Array Value} {below : List Frame} {meth : Method} {c : Code} {H : Heap} {locs : List Loc} {cells slots : Nat} {Q : State → Prop}
variable {cc : ByteArray} {pc : Nat} {ls : Array Slot} {rest : List Value} {A : Nat → Prop} {ka : Nat → Nat}
theorem x_tx (hexec : p.tables.exec = Jvm.exec) (hb : c.code = cc) {xs : Nat → Int32} {t N : Nat} (hT : va_T .int t N (fun j => .int (xs j)) A s s.heap) (hS : va_S A s.heap H locs) {z : Int} (hz : 0 ≤ z ∧ z < N) (hN : N < 2147483648) (hdg : decode cc pc = .ok (.iaload, 1))
    (kk : W p l e R s m args below meth c H locs cells slots Q (F0 m (pc + 1) ls (.int (zI (xs z.toNat).toInt) :: rest))) : W p l e R s m args below meth c H locs cells slots Q (F0 m pc ls (.int (zI z) :: .ref t :: rest)) :=
  va_ti hexec hb hT hS (zI_in hz hN) (v := .int (zI (xs z.toNat).toInt)) (by rw [zI_clamp (by omega)]; exact congrArg Value.int (zI_of _)) hdg kk
end LWT
theorem lg_self (x : Int64) : lg_cmp x x = zI 0 := by
  unfold lg_cmp
  rw [if_neg (by intro q; exact absurd q (by rw [gt_iff_lt, Int64.lt_iff_toInt_lt]; omega)), if_pos rfl]
  rfl
theorem xi_r (x : Int32) : -2147483648 ≤ x.toInt ∧ x.toInt < 2147483648 := ⟨Int32.le_toInt x, Int32.toInt_lt x⟩
