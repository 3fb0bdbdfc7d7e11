/-! ===== my own rows, 3: calls ===== -/
section PU
variable {p : Program} {l : Launch} {e : Env} {R : Room} {s : State} {m : MethodId} {args : Array Value} {below : List Frame} {meth : Method} {c : Code} {H : Heap} {locs : List Loc} {cells slots : Nat} {Q : State → Prop}
variable {mc ms pc : Nat} {A0 : Nat → Prop} {H0 : Heap} {D : va_G} {cl : List vw_C} {ws wc : va_W} {rest st0 : List Value} {a : Array Value} {ls : Array Slot}
/-- a call that changes nothing, its answer an int -/
theorem pu_i {v : Int32} (hr : va_Run p l e R s m args below meth c H locs cells slots 0 0 (F0 m pc ls st0) rest (va_Qi (fun r (_ : Unit) => r = v) (fun _ _ => True) (fun _ => False) a) (fun _ => False)) (hS : va_S A0 H0 H locs) (hP : va_P D cl ws H)
    (kk : ∀ (H1 : Heap) (locs1 : List Loc), va_P D cl ws H1 → va_S A0 H0 H1 locs1 → W p l e R s m args below meth c H1 locs1 cells slots Q (F0 m (pc + 3) ls (.int v :: rest))) : W p l e R s m args below meth c H locs cells slots Q (F0 m pc ls st0) := by
  refine va_calli hr hS (fun _ _ h => h.elim) (fun _ h => h.elim) (fun r u t H1 locs1 _ _ hp _ _ hk hS1 => ?_)
  subst hp
  exact kk H1 locs1 (hP.kept fun k q hq => hk q.1 (hP k q hq).lt (fun h => h)) hS1
/-- .. a long -/
theorem pu_l {v : Int64} (hr : va_Run p l e R s m args below meth c H locs cells slots 0 0 (F0 m pc ls st0) rest (va_Ql (fun r (_ : Unit) => r = v) (fun _ _ => True) (fun _ => False) a) (fun _ => False)) (hS : va_S A0 H0 H locs) (hP : va_P D cl ws H)
    (kk : ∀ (H1 : Heap) (locs1 : List Loc), va_P D cl ws H1 → va_S A0 H0 H1 locs1 → W p l e R s m args below meth c H1 locs1 cells slots Q (F0 m (pc + 3) ls (.long v :: rest))) : W p l e R s m args below meth c H locs cells slots Q (F0 m pc ls st0) := by
  refine va_calll hr hS (fun _ _ h => h.elim) (fun _ h => h.elim) (fun r u t H1 locs1 _ _ hp _ _ hk hS1 => ?_)
  subst hp
  exact kk H1 locs1 (hP.kept fun k q hq => hk q.1 (hP k q hq).lt (fun h => h)) hS1
/-- .. nothing -/
theorem pu_v (hr : va_Run p l e R s m args below meth c H locs cells slots 0 0 (F0 m pc ls st0) rest (va_Qv (fun (_ : Unit) => True) (fun _ _ => True) (fun _ => False) a) (fun _ => False)) (hS : va_S A0 H0 H locs) (hP : va_P D cl ws H)
    (kk : ∀ (H1 : Heap) (locs1 : List Loc), va_P D cl ws H1 → va_S A0 H0 H1 locs1 → W p l e R s m args below meth c H1 locs1 cells slots Q (F0 m (pc + 3) ls rest)) : W p l e R s m args below meth c H locs cells slots Q (F0 m pc ls st0) := by
  refine va_callv hr hS (fun _ _ h => h.elim) (fun _ h => h.elim) (fun u t H1 locs1 _ _ hp _ _ hk hS1 => ?_)
  exact kk H1 locs1 (hP.kept fun k q hq => hk q.1 (hP k q hq).lt (fun h => h)) hS1
/-- a call that changes the cells at the places 'is' -/
theorem ip_i {S : Type} {post : Int32 → S → Prop} {w1 : S → va_W} (hr : va_Run p l e R s m args below meth c H locs cells slots mc ms (F0 m pc ls st0) rest (va_Qi post (fun u t => va_P D cl (w1 u) t.heap) (va_A wc H.size) a) (va_A wc H.size)) (hS : va_S A0 H0 H locs) (hP : va_P D cl ws H) (hD : va_D A0 ws) (hA : ∀ q, H0.size ≤ q → A0 q)
    (is : List Nat) (hC : is.map (fun i => ws[i]?) = wc.map some) (had : ∀ u, (w1 u).map Prod.fst = wc.map Prod.fst)
    (kk : ∀ (r : Int32) (u : S) (H1 : Heap) (locs1 : List Loc), post r u → va_P D cl (setL ws is (w1 u)) H1 → va_D A0 (setL ws is (w1 u)) → va_S A0 H0 H1 locs1 → W p l e R s m args below meth c H1 locs1 (cells + mc) (slots + ms) Q (F0 m (pc + 3) ls (.int r :: rest))) : W p l e R s m args below meth c H locs cells slots Q (F0 m pc ls st0) := by
  have hF := va_free hD hS hA is hC
  refine va_calli hr hS (fun q _ h => hF q h) hF (fun r u t H1 locs1 ht _ hp hB _ hk hS1 => ?_)
  rw [ht] at hB
  obtain ⟨j1, j2⟩ := jn_set hP hD is hC (had u) hk hB
  exact kk r u H1 locs1 hp j1 j2 hS1
theorem ip_v {S : Type} {post : S → Prop} {w1 : S → va_W} (hr : va_Run p l e R s m args below meth c H locs cells slots mc ms (F0 m pc ls st0) rest (va_Qv post (fun u t => va_P D cl (w1 u) t.heap) (va_A wc H.size) a) (va_A wc H.size)) (hS : va_S A0 H0 H locs) (hP : va_P D cl ws H) (hD : va_D A0 ws) (hA : ∀ q, H0.size ≤ q → A0 q)
    (is : List Nat) (hC : is.map (fun i => ws[i]?) = wc.map some) (had : ∀ u, (w1 u).map Prod.fst = wc.map Prod.fst)
    (kk : ∀ (u : S) (H1 : Heap) (locs1 : List Loc), post u → va_P D cl (setL ws is (w1 u)) H1 → va_D A0 (setL ws is (w1 u)) → va_S A0 H0 H1 locs1 → W p l e R s m args below meth c H1 locs1 (cells + mc) (slots + ms) Q (F0 m (pc + 3) ls rest)) : W p l e R s m args below meth c H locs cells slots Q (F0 m pc ls st0) := by
  have hF := va_free hD hS hA is hC
  refine va_callv hr hS (fun q _ h => hF q h) hF (fun u t H1 locs1 ht _ hp hB _ hk hS1 => ?_)
  rw [ht] at hB
  obtain ⟨j1, j2⟩ := jn_set hP hD is hC (had u) hk hB
  exact kk u H1 locs1 hp j1 j2 hS1
/-- what a thrown call leaves to its caller -/
def tr_kx (p : Program) (l : Launch) (e : Env) (R : Room) (s : State) (m : MethodId) (args : Array Value) (below : List Frame) (meth : Method) (c : Code) (cells slots : Nat) (Q : State → Prop) (D : va_G) (cl : List vw_C) (A0 : Nat → Prop) (H0 : Heap) (g : JFrame) (w : va_W) (E : String) : Prop :=
  ∀ (q : Addr) (ce : Cell) (H1 : Heap) (locs1 : List Loc), va_P D cl w H1 → va_D A0 w → va_S A0 H0 H1 locs1 → H1[q]? = some ce → ce.vm = .none → s.vm.findClass E = some ce.cls → tr_W p l e R s m args below meth c H1 locs1 cells slots Q g q
theorem tx_i {S SX : Type} {post : Int32 → S → Prop} {w1 : S → va_W} {px : String → SX → Prop} {w2 : SX → va_W} (hr : tr_Run p l e R s m args below meth c H locs cells slots mc ms (F0 m pc ls st0) rest (va_Qi post (fun u t => va_P D cl (w1 u) t.heap) (va_A wc H.size) a) (fun E t => ∃ u : SX, px E u ∧ va_P D cl (w2 u) t.heap) (va_A wc H.size)) (hS : va_S A0 H0 H locs) (hP : va_P D cl ws H) (hD : va_D A0 ws) (hA : ∀ q, H0.size ≤ q → A0 q)
    (is : List Nat) (hC : is.map (fun i => ws[i]?) = wc.map some) (had : ∀ u, (w1 u).map Prod.fst = wc.map Prod.fst) (hax : ∀ u, (w2 u).map Prod.fst = wc.map Prod.fst)
    (kx : ∀ (E : String) (u : SX), px E u → tr_kx p l e R s m args below meth c (cells + mc) (slots + ms) Q D cl A0 H0 (F0 m pc ls rest) (setL ws is (w2 u)) E)
    (kk : ∀ (r : Int32) (u : S) (H1 : Heap) (locs1 : List Loc), post r u → va_P D cl (setL ws is (w1 u)) H1 → va_D A0 (setL ws is (w1 u)) → va_S A0 H0 H1 locs1 → W p l e R s m args below meth c H1 locs1 (cells + mc) (slots + ms) Q (F0 m (pc + 3) ls (.int r :: rest))) : W p l e R s m args below meth c H locs cells slots Q (F0 m pc ls st0) := by
  have hF := va_free hD hS hA is hC
  intro T hT Y
  obtain ⟨st₀, t, B, L, h0, e1, -, b3, hL, h⟩ := hr T hT Y
  rcases h with ⟨v, ⟨⟨r, u, hv, hp, hB⟩, hFr⟩, st⟩ | ⟨q, E, ce, ⟨⟨u, hp, hB⟩, hFr⟩, ⟨c1, c2, c3⟩, st⟩
  · obtain ⟨k1, k2⟩ := tr_keep h0 e1 hS hF hL hFr
    cases hv
    obtain ⟨j1, j2⟩ := jn_set hP hD is hC (had u) k1 (by rw [e1]; exact hB)
    obtain ⟨t2, a1, b1⟩ := kk r u B.heap (locs ++ L) hp j1 j2 k2 B rfl b3
    exact ⟨t2, st t2 a1, b1⟩
  · obtain ⟨k1, k2⟩ := tr_keep h0 e1 hS hF hL hFr
    obtain ⟨j1, j2⟩ := jn_set hP hD is hC (hax u) k1 (by rw [e1]; exact hB)
    obtain ⟨t2, a1, b1⟩ := kx E u hp q ce B.heap (locs ++ L) j1 j2 k2 (by rw [e1]; exact c1) c2 c3 B rfl b3
    exact ⟨t2, st.trans a1, b1⟩
theorem tx_l {S SX : Type} {post : Int64 → S → Prop} {w1 : S → va_W} {px : String → SX → Prop} {w2 : SX → va_W} (hr : tr_Run p l e R s m args below meth c H locs cells slots mc ms (F0 m pc ls st0) rest (va_Ql post (fun u t => va_P D cl (w1 u) t.heap) (va_A wc H.size) a) (fun E t => ∃ u : SX, px E u ∧ va_P D cl (w2 u) t.heap) (va_A wc H.size)) (hS : va_S A0 H0 H locs) (hP : va_P D cl ws H) (hD : va_D A0 ws) (hA : ∀ q, H0.size ≤ q → A0 q)
    (is : List Nat) (hC : is.map (fun i => ws[i]?) = wc.map some) (had : ∀ u, (w1 u).map Prod.fst = wc.map Prod.fst) (hax : ∀ u, (w2 u).map Prod.fst = wc.map Prod.fst)
    (kx : ∀ (E : String) (u : SX), px E u → tr_kx p l e R s m args below meth c (cells + mc) (slots + ms) Q D cl A0 H0 (F0 m pc ls rest) (setL ws is (w2 u)) E)
    (kk : ∀ (r : Int64) (u : S) (H1 : Heap) (locs1 : List Loc), post r u → va_P D cl (setL ws is (w1 u)) H1 → va_D A0 (setL ws is (w1 u)) → va_S A0 H0 H1 locs1 → W p l e R s m args below meth c H1 locs1 (cells + mc) (slots + ms) Q (F0 m (pc + 3) ls (.long r :: rest))) : W p l e R s m args below meth c H locs cells slots Q (F0 m pc ls st0) := by
  have hF := va_free hD hS hA is hC
  intro T hT Y
  obtain ⟨st₀, t, B, L, h0, e1, -, b3, hL, h⟩ := hr T hT Y
  rcases h with ⟨v, ⟨⟨r, u, hv, hp, hB⟩, hFr⟩, st⟩ | ⟨q, E, ce, ⟨⟨u, hp, hB⟩, hFr⟩, ⟨c1, c2, c3⟩, st⟩
  · obtain ⟨k1, k2⟩ := tr_keep h0 e1 hS hF hL hFr
    cases hv
    obtain ⟨j1, j2⟩ := jn_set hP hD is hC (had u) k1 (by rw [e1]; exact hB)
    obtain ⟨t2, a1, b1⟩ := kk r u B.heap (locs ++ L) hp j1 j2 k2 B rfl b3
    exact ⟨t2, st t2 a1, b1⟩
  · obtain ⟨k1, k2⟩ := tr_keep h0 e1 hS hF hL hFr
    obtain ⟨j1, j2⟩ := jn_set hP hD is hC (hax u) k1 (by rw [e1]; exact hB)
    obtain ⟨t2, a1, b1⟩ := kx E u hp q ce B.heap (locs ++ L) j1 j2 k2 (by rw [e1]; exact c1) c2 c3 B rfl b3
    exact ⟨t2, st.trans a1, b1⟩
theorem tx_v {S SX : Type} {post : S → Prop} {w1 : S → va_W} {px : String → SX → Prop} {w2 : SX → va_W} (hr : tr_Run p l e R s m args below meth c H locs cells slots mc ms (F0 m pc ls st0) rest (va_Qv post (fun u t => va_P D cl (w1 u) t.heap) (va_A wc H.size) a) (fun E t => ∃ u : SX, px E u ∧ va_P D cl (w2 u) t.heap) (va_A wc H.size)) (hS : va_S A0 H0 H locs) (hP : va_P D cl ws H) (hD : va_D A0 ws) (hA : ∀ q, H0.size ≤ q → A0 q)
    (is : List Nat) (hC : is.map (fun i => ws[i]?) = wc.map some) (had : ∀ u, (w1 u).map Prod.fst = wc.map Prod.fst) (hax : ∀ u, (w2 u).map Prod.fst = wc.map Prod.fst)
    (kx : ∀ (E : String) (u : SX), px E u → tr_kx p l e R s m args below meth c (cells + mc) (slots + ms) Q D cl A0 H0 (F0 m pc ls rest) (setL ws is (w2 u)) E)
    (kk : ∀ (u : S) (H1 : Heap) (locs1 : List Loc), post u → va_P D cl (setL ws is (w1 u)) H1 → va_D A0 (setL ws is (w1 u)) → va_S A0 H0 H1 locs1 → W p l e R s m args below meth c H1 locs1 (cells + mc) (slots + ms) Q (F0 m (pc + 3) ls rest)) : W p l e R s m args below meth c H locs cells slots Q (F0 m pc ls st0) := by
  have hF := va_free hD hS hA is hC
  intro T hT Y
  obtain ⟨st₀, t, B, L, h0, e1, -, b3, hL, h⟩ := hr T hT Y
  rcases h with ⟨v, ⟨⟨u, hv, hp, hB⟩, hFr⟩, st⟩ | ⟨q, E, ce, ⟨⟨u, hp, hB⟩, hFr⟩, ⟨c1, c2, c3⟩, st⟩
  · obtain ⟨k1, k2⟩ := tr_keep h0 e1 hS hF hL hFr
    cases hv
    obtain ⟨j1, j2⟩ := jn_set hP hD is hC (had u) k1 (by rw [e1]; exact hB)
    obtain ⟨t2, a1, b1⟩ := kk u B.heap (locs ++ L) hp j1 j2 k2 B rfl b3
    exact ⟨t2, st t2 a1, b1⟩
  · obtain ⟨k1, k2⟩ := tr_keep h0 e1 hS hF hL hFr
    obtain ⟨j1, j2⟩ := jn_set hP hD is hC (hax u) k1 (by rw [e1]; exact hB)
    obtain ⟨t2, a1, b1⟩ := kx E u hp q ce B.heap (locs ++ L) j1 j2 k2 (by rw [e1]; exact c1) c2 c3 B rfl b3
    exact ⟨t2, st.trans a1, b1⟩
end PU
/-! ===== my own rows, 4: what stays true while nothing outside A changes ===== -/
def ps (Φ : State → Prop) (A : Nat → Prop) (U : State) (H : Heap) : Prop := ∀ V : State, U.WarmedH V.vm → H.size ≤ V.heap.size → (∀ a : Nat, a < H.size → ¬ A a → V.heap[a]? = H[a]?) → Φ V
theorem ps.now {Φ : State → Prop} {A : Nat → Prop} {U : State} (h : ps Φ A U U.heap) : Φ U := h U (State.WarmedH.refl U) (Nat.le_refl _) (fun _ _ _ => rfl)
theorem ps.go {Φ : State → Prop} {A B : Nat → Prop} {U V : State} {H : Heap} {locs : List Loc} (h : ps Φ A U H) (hW : U.WarmedH V.vm) (hS : va_S A H V.heap locs) (hB : ∀ q, q < V.heap.size → B q → A q) : ps Φ B V V.heap := fun Z hZ hz hk =>
  h Z (State.WarmedH.trans hW hZ) (Nat.le_trans hS.1 hz) (fun a ha hA => (hk a (Nat.lt_of_lt_of_le ha hS.1) (fun b => hA (hB _ (Nat.lt_of_lt_of_le ha hS.1) b))).trans (hS.2.1 a ha hA))
theorem ps.blind {Φ : State → Prop} {A : Nat → Prop} {U : State} {g : JFrame} {mk : MethodId} {a : Array Value} (h : ps Φ A U U.heap) : ps Φ A (U.calling g mk a) (U.calling g mk a).heap := fun Z hZ hz hk => h Z hZ hz hk
/-! ===== my own rows, 5: throw new E("text") ===== -/
section TH
variable {p : Program} {l : Launch} {e : Env} {R : Room} {s : State} {m : MethodId} {args : Array Value} {below : List Frame} {meth : Method} {c : Code} {H : Heap} {locs : List Loc} {cells slots : Nat} {Q : State → Prop}
variable {Qc : Array Value → State → Outcome → State → Prop} {X : String → State → Prop} {A : Nat → Prop} {mc ms : Nat}
/-- the state T, seen as the method's own start -/
def tr_at (s T : State) (m : MethodId) (args : Array Value) (below : List Frame) : State := (T.setVm s.vm).setFrames (.invoking m args :: below)
theorem tr_base {T : State} (Y : Stand p l e R s m args below meth c T locs cells slots) {R' : Room} (hf : R'.frames ≤ R.frames) (hl : R'.locals ≤ R.locals) (hc : cells + R'.cells ≤ R.cells) (hs : slots + R'.slots ≤ R.slots) :
    Stand p l e R' (tr_at s T m args below) m args below meth c T [] 0 0 := by
  obtain ⟨g₀, hg0⟩ := Option.isSome_iff_exists.mp Y.here.top
  obtain ⟨r, hr⟩ := State.topJava?_eq_some.mp hg0
  obtain ⟨th, hth, -⟩ := State.frames_cons hr
  have hlt : T.cur < T.threads.size := State.cur_lt_of_frames hr
  have hF : (tr_at s T m args below).frames = .invoking m args :: below := State.frames_setFrames _ (s := T.setVm s.vm) hlt
  have hU : (tr_at s T m args below).localsInUse = s.localsInUse := by
    rw [State.localsInUse_invoking hF (meth := meth) (c := c) Y.method Y.code, State.localsInUse_invoking Y.frames Y.method Y.code]
  have hlim : e.platform.stackLimits (tr_at s T m args below).me = e.platform.stackLimits s.me := (State.stackLimits_setFrames e.platform (T.setVm s.vm) _).trans Y.limits
  have hby : (tr_at s T m args below).me.stackBytes = s.me.stackBytes := (State.stackBytes_setFrames (T.setVm s.vm) _).trans Y.bytes
  obtain ⟨r1, r2, r3, r4⟩ := State.hasRoom_stack Y.room
  have r5 := State.hasRoom_real Y.room
  have r6 := State.hasRoom_plain Y.room
  obtain ⟨r7, r8⟩ := State.hasRoom_heap Y.room
  have q1 := Y.heapSize
  have q2 := Y.used
  have hlen : (tr_at s T m args below).frames.length = s.frames.length := by rw [hF, Y.frames]
  have k1 : (tr_at s T m args below).heap.size + R'.cells ≤ e.platform.maxCells := by
    show T.heap.size + R'.cells ≤ e.platform.maxCells
    omega
  have k2 : (tr_at s T m args below).slotsUsed + R'.slots ≤ e.platform.maxSlots := by
    show T.slotsUsed + R'.slots ≤ e.platform.maxSlots
    omega
  refine ⟨Y.admits, Y.cas, Y.clock, hF, ?_, Y.hears, Y.method, Y.code, Y.here, Y.tail, Y.warmed, hlim.symm ▸ Y.limits, hby.symm ▸ Y.bytes, ?_⟩
  · unfold State.hasRoom
    simp only [Bool.and_eq_true, decide_eq_true_eq]
    rw [hU, hlen, hlim, hby]
    exact ⟨⟨⟨⟨by omega, by omega, by omega, by omega, by omega, r6⟩, k1⟩, k2⟩, Y.book⟩
  · have hd : (T.heap.toList.drop T.heap.size) = [] := List.drop_eq_nil_of_le (Nat.le_of_eq Array.length_toList)
    refine ⟨?_, Nat.le_refl _, Nat.le_refl _, ?_, ?_, fun a c9 h9 => ⟨c9, h9, rfl, rfl, fun _ _ => rfl⟩⟩
    · show T.setVm s.vm = { (tr_at s T m args below).setFrames (T.setVm s.vm).frames with heap := T.heap, slotsUsed := T.slotsUsed }
      have hself : (T.setVm s.vm).setFrames (T.setVm s.vm).frames = T.setVm s.vm := State.setFrames_self (s := T.setVm s.vm) hth
      unfold tr_at
      rw [State.setFrames_setFrames, hself]
      rfl
    · show T.slotsUsed = T.slotsUsed + ((T.heap.toList.drop T.heap.size).map (·.slots.size)).sum
      rw [hd]; rfl
    · show ((T.heap.toList.drop T.heap.size).map (·.slots.size)).sum ≤ 0
      rw [hd]; exact Nat.le_refl _
/-- a heap that has grown, nothing else: what was there is there -/
theorem tr_grown {U V : State} {k n : Nat} (h : U.sameButNew V [] k n) : U.heap.size ≤ V.heap.size ∧ ∀ q : Nat, q < U.heap.size → V.heap[q]? = U.heap[q]? := by
  obtain ⟨-, h2, -, -, -, h6⟩ := h
  refine ⟨h2, fun q hq => ?_⟩
  obtain ⟨c9, e1, e2, e3, e4⟩ := h6 q _ (Array.getElem?_eq_getElem hq)
  have hs : c9.slots = (U.heap[q]).slots := Array.ext_getElem? fun i => e4 i (fun hm => nomatch hm)
  rw [hs] at e2
  rw [e1, e2, Array.getElem?_eq_getElem hq]
/-- new; dup; ldc; invokespecial; athrow -/
theorem tr_throw {cc : ByteArray} {pc : Nat} {ls : Array Slot} {rest : List Value} (hexec : p.tables.exec = Jvm.exec) (hb : c.code = cc) (hl : l.stackTraces = false) {own cls text : String} {names : List String} {ik is ic : Nat}
    (hown : s.vm.findClass own = some m.cls) (hcls : Bundle.fit cls = true) (hnames : ∀ n ∈ names, Bundle.fit n = true)
    (hw : ps (fun V => (∀ (a : Array Value) (w : Cond), w ∈ Cond.classLink own ik cls :: Cond.initialized cls :: Bundle.ownAtoms own ic cls names → w.before a V = true) ∧ ∃ sa, vk_R own is text sa V) A s s.heap)
    (hS : va_S A s.heap H locs) (hsize : ls.size = c.maxLocals)
    (d0 : decode cc pc = .ok (.new ik, 3)) (d3 : decode cc (pc + 3) = .ok (.dup, 1)) (d4 : decode cc (pc + 4) = .ok (.ldc is, 2)) (d6 : decode cc (pc + 6) = .ok (.invokespecial ic, 3)) (d9 : decode cc (pc + 9) = .ok (.athrow, 1))
    (hout : ∀ x ∈ c.exceptionTable.toList, covers x (pc + 9) = false)
    (hRf : names.length + 3 < R.frames) (hRl : (rest.map fun v => v.category).sum + (13 * (names.length + 1) + 43) ≤ R.locals) (hRc : cells + 1 ≤ R.cells) (hRs : slots + 6 ≤ R.slots) (hlocks : meth.locks = false)
    (hx : ∀ t : State, H.size ≤ t.heap.size → (∀ q : Nat, q < H.size → t.heap[q]? = H[q]?) → X cls t) (hA : ∀ q, s.heap.size ≤ q → A q) (hc : cells + 1 ≤ mc) (hs : slots + 6 ≤ ms) :
    W p l e R s m args below meth c H locs cells slots (tr_MQ below Qc X A args s mc ms) (F0 m pc ls rest) := by
  intro T hT Y
  have htr : e.platform.stackTraces = false := (show e.platform.stackTraces = l.stackTraces by rw [Y.admits.platform]).trans hl
  have Z := tr_base Y (R' := { frames := R.frames, locals := R.locals, cells := 1, slots := 6 }) (Nat.le_refl _) (Nat.le_refl _) hRc hRs
  generalize hs' : tr_at s T m args below = s' at Z
  have hvm : s'.vm = s.vm := by rw [← hs']; rfl
  have hhp : s'.heap = H := by rw [← hs']; exact hT
  obtain ⟨hwd, sa, hstr⟩ := hw s' (by rw [hvm]; exact State.WarmedH.refl s) (by rw [hhp]; exact hS.1) (by rw [hhp]; exact hS.2.1)
  have hown' : s'.vm.findClass own = some m.cls := by rw [hvm]; exact hown
  have hat : ∀ w ∈ Bundle.ownAtoms own ic cls names, w.before args s' = true := fun w h => hwd args w (List.mem_cons_of_mem _ (List.mem_cons_of_mem _ h))
  obtain ⟨vm₁, cX, kX, hfX, hkX, -, -, X₁, st1⟩ := Z.newCold hexec (own := own) (C := cls) (index := ik) (n := 6) hown' (hwd args _ List.mem_cons_self) (hat _ (by simp [Bundle.ownAtoms])) (hwd args _ (List.mem_cons_of_mem _ List.mem_cons_self))
    (g := F0 m pc ls rest) rfl (by rw [hb]; exact d0) (Nat.le_refl _) (Nat.le_refl _)
  generalize hT1 : (T.setVm vm₁).pushCell { cls := cX, slots := kX.instanceTypes.map defaultValue, vm := .none } = T1 at X₁ st1
  have hcat : (Value.ref T.heap.size).category = 1 := rfl
  have hcellA : T1.heap[T.heap.size]? = some (freshCell cX kX) := by rw [← hT1]; exact State.heap_pushCell_size _ _
  have d3' : decode c.code (pc + 3) = .ok (.dup, 1) := by rw [hb]; exact d3
  have d4' : decode c.code (pc + 4) = .ok (.ldc is, 2) := by rw [hb]; exact d4
  obtain ⟨U, hsteps, hrun, hend, hW, hsame, ce, hce, hO⟩ := X₁.ctorThrowS hexec htr (own := own) (cls := cls) (names := names) (ic := ic) hown' hcls hnames hat (fun x hx => nomatch hx) hfX hkX hcellA (by rw [hhp, hT]; exact Nat.le_refl _) (msg := .ref sa) rfl
    (g := { method := m, pc := pc + 6, locals := ls, stack := .ref sa :: .ref T.heap.size :: .ref T.heap.size :: rest, locked := none }) rfl hsize rfl rfl (rest := rest) rfl
    (by rw [hb]; exact d6) (by rw [hb]; exact d9) hout hRf (by simp only [List.map_cons, List.sum_cons, hcat]; omega) hlocks
  have hgr : s'.heap.size ≤ U.heap.size ∧ ∀ q : Nat, q < s'.heap.size → U.heap[q]? = s'.heap[q]? := tr_grown (V := ({ U with vm := s'.vm } : State)) hsame
  rw [hhp] at hgr
  obtain ⟨f1, f2⟩ := hgr
  have hWs : s.WarmedH U.vm := by
    have h9 : s'.WarmedH U.vm := hW
    exact State.WarmedH.trans (s := s) (by rw [hvm]; exact State.WarmedH.refl s) h9
  have hall : s.sameButNew ({ U with vm := s.vm } : State) locs mc ms := by
    obtain ⟨e1, e2⟩ := hsame
    subst hs'
    unfold tr_at at e1
    rw [State.setFrames_setFrames] at e1
    have h2 : (T.setVm s.vm).sameButNew ({ U with vm := s.vm } : State) [] (0 + 1) (0 + 6) := ⟨e1, e2⟩
    have h3 := Y.same.trans h2
    rw [List.append_nil] at h3
    exact h3.mono hc hs
  refine ⟨U, ?_, .threw T.heap.size, hrun, hend, Or.inr ⟨T.heap.size, rfl, cls, ce, locs, ⟨hx U f1 f2, Nat.le_trans hS.1 f1, fun q h1 h2 => (f2 q (Nat.lt_of_lt_of_le h1 hS.1)).trans (hS.2.1 q h1 h2)⟩, ⟨hce, hO.vm, ?_⟩, hWs, hall, hS.2.2⟩⟩
  · refine st1 _ ?_
    show Steps p.tables e below (T1.setTop { method := m, pc := pc + 3, locals := ls, stack := .ref T.heap.size :: rest, locked := none }) _
    jvm_step X₁.here [X₁.here.top, hexec, d3', Value.category]
    exact X₁.ldcString hexec (own := own) (text := text) (index := is) (a := sa) hown' hstr.1 hstr.2
      (g := { method := m, pc := pc + 4, locals := ls, stack := .ref T.heap.size :: .ref T.heap.size :: rest, locked := none }) rfl d4' _ hsteps
  · have h9 := hO.cls
    rw [hvm] at h9
    exact h9
end TH
