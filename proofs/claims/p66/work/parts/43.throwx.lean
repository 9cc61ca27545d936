/-! the class: what throws -/
theorem va_P_ext {D : va_G} {cl : List vw_C} {ws : va_W} {H H1 : Heap} (hP : va_P D cl ws H) (h : ∀ q : Nat, q < H.size → H1[q]? = H[q]?) : va_P D cl ws H1 := hP.kept (fun k q hk => h _ (hP k q hk).lt)
section XTHR
variable {p : Program} {l : Launch} {e : Env} {R : Room} {s : State} {m : MethodId} {args : Array Value} {below : List Frame} {meth : Method} {c : Code} {H : Heap} {locs : List Loc} {cells slots : Nat} {Q : State → Prop}
variable {pc : Nat} {ls : Array Slot} {rest st0 : List Value} {a : Array Value} {A A0 : Nat → Prop} {H0 : Heap} {mc ms : Nat} {dg : va_G} {M M' MX : va_W}
theorem x_thrX {XP : String → Prop} {w0 wX : va_W} {E : String} {t : State} (hAe : va_A w0 s.heap.size = A) (hP : va_P dg vwCl wX H) (hD : va_D A wX) (hS : va_S A s.heap H locs) (hE : XP E) (h1 : H.size ≤ t.heap.size) (h2 : ∀ q : Nat, q < H.size → t.heap[q]? = H[q]?) : vx_X (fun _ : Unit => True) (fun E (_ : Unit) t9 => XP E ∧ wrQ dg s.heap.size w0 wX t9) A E s t :=
  ⟨(), trivial, ⟨hE, va_P_ext hP h2, by rw [hAe]; exact hD⟩, Nat.le_trans hS.1 h1, fun q hq hn => (h2 q (Nat.lt_of_lt_of_le hq hS.1)).trans (hS.2.1 q hq hn)⟩
theorem x_outX {XP : String → Prop} {w0 wX : va_W} {E : String} {ce : Cell} {q : Addr} {Qc : Array Value → State → Outcome → State → Prop} (hAe : va_A w0 s.heap.size = A) (htab : ∀ x ∈ c.exceptionTable.toList, False) (hlocks : meth.locks = false) (hP : va_P dg vwCl wX H) (hD : va_D A wX) (hS : va_S A s.heap H locs) (hE : XP E) (hcell : H[q]? = some ce) (hv : ce.vm = .none) (hcl : s.vm.findClass E = some ce.cls) (hc : cells ≤ mc) (hs : slots ≤ ms) :
    vx_W p l e R s m args below meth c H locs cells slots (vx_MQ below Qc (vx_X (fun _ : Unit => True) (fun E (_ : Unit) t9 => XP E ∧ wrQ dg s.heap.size w0 wX t9) A) args s mc ms A) (F0 m pc ls rest) q :=
  vx_out (fun x h => (htab x h).elim) hlocks hcell hv hcl (fun t ht _ => x_thrX hAe hP hD hS hE (by rw [ht]; exact Nat.le_refl _) (fun q _ => by rw [ht])) hS.2.2 hc hs
theorem xx_callv {XP : String → Prop} {pn : Prop} (hP : va_P dg vwCl M H) (hD : va_D A0 M) (hS : va_S A0 H0 H locs) (hA : ∀ q, H0.size ≤ q → A0 q)
    (hr : vx_Run p l e R s m args below meth c H locs cells slots mc ms (F0 m pc ls st0) rest (va_Qv (fun _ : Unit => pn) (fun _ t => wrQ dg H.size M M' t) (va_A M H.size) a) (vx_X (fun _ : Unit => True) (fun E _ t => XP E ∧ wrQ dg H.size M MX t) (va_A M H.size)) (va_A M H.size))
    (kx : ∀ (E : String) (ce : Cell) (q9 : Addr) (H1 : Heap) (locs1 : List Loc), XP E → va_P dg vwCl MX H1 → va_D A0 MX → va_S A0 H0 H1 locs1 → H1[q9]? = some ce → ce.vm = .none → s.vm.findClass E = some ce.cls → vx_W p l e R s m args below meth c H1 locs1 (cells + mc) (slots + ms) Q (F0 m pc ls rest) q9)
    (kk : ∀ (H1 : Heap) (locs1 : List Loc), pn → va_P dg vwCl M' H1 → va_D A0 M' → va_S A0 H0 H1 locs1 → W p l e R s m args below meth c H1 locs1 (cells + mc) (slots + ms) Q (F0 m (pc + 3) ls rest)) : W p l e R s m args below meth c H locs cells slots Q (F0 m pc ls st0) := by
  have hF := fr_F1 hD hS hA
  refine vx_callv hr hS (fun q _ h => hF q h) hF (fun q _ h => hF q h) (fun E ce q9 u t H1 locs1 ht hvm hpx hB hz1 hk1 hS1 g1 g2 g3 => ?_) (fun u t H1 locs1 ht hvm hw hB hz1 hk1 hS1 => ?_)
  · obtain ⟨hE, hP1, hD1⟩ := hB
    rw [ht] at hP1
    exact kx E ce q9 H1 locs1 hE hP1 (hD1.weaken (fun k q _ h => hF q.1 h)) hS1 g1 g2 g3
  · obtain ⟨hP1, hD1⟩ := hB
    rw [ht] at hP1
    exact kk H1 locs1 hw hP1 (hD1.weaken (fun k q _ h => hF q.1 h)) hS1
theorem xx_calli {XP : String → Prop} {post : Int32 → Prop} (hP : va_P dg vwCl M H) (hD : va_D A0 M) (hS : va_S A0 H0 H locs) (hA : ∀ q, H0.size ≤ q → A0 q)
    (hr : vx_Run p l e R s m args below meth c H locs cells slots mc ms (F0 m pc ls st0) rest (va_Qi (fun r (_ : Unit) => post r) (fun _ t => wrQ dg H.size M M' t) (va_A M H.size) a) (vx_X (fun _ : Unit => True) (fun E _ t => XP E ∧ wrQ dg H.size M MX t) (va_A M H.size)) (va_A M H.size))
    (kx : ∀ (E : String) (ce : Cell) (q9 : Addr) (H1 : Heap) (locs1 : List Loc), XP E → va_P dg vwCl MX H1 → va_D A0 MX → va_S A0 H0 H1 locs1 → H1[q9]? = some ce → ce.vm = .none → s.vm.findClass E = some ce.cls → vx_W p l e R s m args below meth c H1 locs1 (cells + mc) (slots + ms) Q (F0 m pc ls rest) q9)
    (kk : ∀ (r : Int32) (H1 : Heap) (locs1 : List Loc), post r → va_P dg vwCl M' H1 → va_D A0 M' → va_S A0 H0 H1 locs1 → W p l e R s m args below meth c H1 locs1 (cells + mc) (slots + ms) Q (F0 m (pc + 3) ls (.int r :: rest))) : W p l e R s m args below meth c H locs cells slots Q (F0 m pc ls st0) := by
  have hF := fr_F1 hD hS hA
  refine vx_calli hr hS (fun q _ h => hF q h) hF (fun q _ h => hF q h) (fun E ce q9 u t H1 locs1 ht hvm hpx hB hz1 hk1 hS1 g1 g2 g3 => ?_) (fun r u t H1 locs1 ht hvm hw hB hz1 hk1 hS1 => ?_)
  · obtain ⟨hE, hP1, hD1⟩ := hB
    rw [ht] at hP1
    exact kx E ce q9 H1 locs1 hE hP1 (hD1.weaken (fun k q _ h => hF q.1 h)) hS1 g1 g2 g3
  · obtain ⟨hP1, hD1⟩ := hB
    rw [ht] at hP1
    exact kk r H1 locs1 hw hP1 (hD1.weaken (fun k q _ h => hF q.1 h)) hS1
end XTHR
theorem nw_all {ka : Nat → Nat} {A : Nat → Prop} {s : State} {args : Array Value} {H : Heap} (hC : KC ka A s H) : ∀ w ∈ NW, w.before args s = true := fun w hw => va_Nw.use (NWb_t (NW_b w hw)) (hC.1 w hw)
