/-! worlds that grow: cell i lies at h0 + i; the rows of constructors -/
abbrev gx (D : va_G) (T : Nat → ClassId) (h0 N : Nat) : CX := (D, T, fun i => h0 + i, N)
def GA (h0 : Nat) : Nat → Prop := fun q => h0 ≤ q
def xG (U : State) : Prop := va_AO RX0 U ∧ va_Nw (.methodLinkNest RX4 11 yX3_init RX4) U ∧ va_Nw (.methodLinkNest RX4 18 yX0_init RX4) U ∧ va_Nw (.methodLinkNest RX4 35 yX2_init RX4) U ∧ va_Nw (.methodLinkNest RX1 17 yX0_init RX4) U
def GW (D : va_G) (T : Nat → ClassId) (h0 N : Nat) (μ : ME) (U : State) : Prop := xP (gx D T h0 N) μ U.heap ∧ xK (gx D T h0 N) U ∧ xG U ∧ U.heap.size = h0 + N
def GP (D : va_G) (T : Nat → ClassId) (h0 N : Nat) (μ : ME) (U : State) : Prop := xP (gx D T h0 N) μ U.heap ∧ U.heap.size = h0 + N
def GS (D : va_G) (T : Nat → ClassId) (h0 : Nat) (s : State) (N : Nat) (μ : ME) (H : Heap) (locs : List Loc) : Prop := xP (gx D T h0 N) μ H ∧ va_S (GA h0) s.heap H locs ∧ H.size = h0 + N ∧ h0 ≤ s.heap.size
def GF (D : va_G) (T : Nat → ClassId) (h0 : Nat) (p : Program) (s : State) (m : MethodId) (args : Array Value) (c : Code) (cc : ByteArray) (nL : Nat) (own : String) : Prop := CallFix p m c cc nL s args TB own ∧ xK (gx D T h0 0) s ∧ xG s
abbrev GT (D : va_G) (T : Nat → ClassId) (h0 : Nat) (l : Launch) (y : MethodName) (bytes : ByteArray) (maxL fr lo N k sl : Nat) (av : List Value) (μ : ME) (post : ME → Prop) : Prop :=
  Met l y (WT y bytes maxL none) { frames := fr, cells := k, slots := sl, locals := lo } (va_Pc av (GW D T h0 N μ)) (va_Qv post (GP D T h0 (N + k)) (GA h0)) k sl (GA h0)
theorem gD (h0 N : Nat) (μ : ME) : va_D (GA h0) (wl (fun i => h0 + i) N μ) := by
  refine ⟨fun i j p q hp hq e => ?_, fun k q hq => ?_⟩
  · obtain ⟨h1, rfl⟩ := wl_in hp
    obtain ⟨h2, rfl⟩ := wl_in hq
    have e : h0 + i = h0 + j := e
    omega
  · obtain ⟨h1, rfl⟩ := wl_in hq
    show h0 ≤ h0 + k
    omega
theorem wl_push {ad : Nat → Nat} {N : Nat} {μ : ME} {e : va_E} : wl ad (N + 1) (va_up μ N e) = wl ad N μ ++ [(ad N, e)] := by
  unfold wl
  rw [List.range_succ, List.map_append]
  congr 1
  · apply List.map_congr_left
    intro i hi
    have hi := List.mem_range.mp hi
    rw [va_up_ne _ _ (by omega)]
  · show [(ad N, va_up μ N e N)] = _
    rw [va_up_self]
theorem xG_moved {s U : State} (hW : s.WarmedH U.vm) (h : xG s) : xG U := ⟨va_AO.moved hW.alike h.1, va_Nw.warmM hW h.2.1, va_Nw.warmM hW h.2.2.1, va_Nw.warmM hW h.2.2.2.1, va_Nw.warmM hW h.2.2.2.2⟩
theorem xG_same {u U : State} (e : u.vm = U.vm) (h : xG u) : xG U := ⟨va_AO.moved (u := u) (by rw [e]; exact Vm.Alike.refl _) h.1, va_Nw.same (w := .methodLinkNest RX4 11 yX3_init RX4) rfl e h.2.1, va_Nw.same (w := .methodLinkNest RX4 18 yX0_init RX4) rfl e h.2.2.1, va_Nw.same (w := .methodLinkNest RX4 35 yX2_init RX4) rfl e h.2.2.2.1, va_Nw.same (w := .methodLinkNest RX1 17 yX0_init RX4) rfl e h.2.2.2.2⟩
theorem GW_blind {D : va_G} {T : Nat → ClassId} {h0 N : Nat} {μ : ME} {av : List Value} : FrameBlind (va_Pc av (GW D T h0 N μ)) := by
  intro a U g mk h
  obtain ⟨h0, hP, ⟨hK, hN⟩, hG, hz⟩ := h
  exact ⟨h0, hP, ⟨va_K.moved (u := U) (U := U.calling g mk a) (Vm.Alike.refl U.vm) hK, va_Nw.same (w := .methodLinkNest RX0 96 yX4_isCarried RX4) rfl (u := U) (U := U.calling g mk a) rfl hN⟩, xG_same (u := U) (U := U.calling g mk a) rfl hG, hz⟩
theorem GW_at {D : va_G} {T : Nat → ClassId} {h0 N : Nat} {μ : ME} {s U : State} {H : Heap} (hP : xP (gx D T h0 N) μ H) (hK : xK (gx D T h0 0) s) (hG : xG s) (hz : H.size = h0 + N) (hU : U.heap = H) (hW : s.WarmedH U.vm) : GW D T h0 N μ U :=
  ⟨by rw [hU]; exact hP, ⟨va_K.moved hW.alike hK.1, va_Nw.warmM hW hK.2⟩, xG_moved hW hG, by rw [hU]; exact hz⟩
theorem gt_of {D : va_G} {T : Nat → ClassId} {h0 N k sl : Nat} {l : Launch} {y : MethodName} {cc : ByteArray} {maxL fr lo : Nat} {av : List Value} {μ : ME} {post : ME → Prop}
    (hy : plainName y.cls = true) (hyn : y.name = "<init>") (hn : (lg_sl av).length ≤ maxL)
    (body : ∀ (p : Program) (e : Env) (s : State) (m : MethodId) (below : List Frame) (meth : Method) (c : Code) (ls : Array Slot), GF D T h0 p s m av.toArray c cc maxL y.cls → meth.name = "<init>" → meth.sig.returnType = none → meth.locks = false → GS D T h0 s N μ s.heap [] → lv_has ls maxL (lv_args 0 av) →
      W p l e { frames := fr, cells := k, slots := sl, locals := lo } s m av.toArray below meth c s.heap [] 0 0 (MQ below (va_Qv post (GP D T h0 (N + k)) (GA h0)) av.toArray s k sl (GA h0)) (F0 m 0 ls [])) : GT D T h0 l y cc maxL fr lo N k sl av μ post := by
  refine Met.ofW (cc := cc) (maxL := maxL) (ret := none) hy rfl ?_
  intro p e s m args below meth c s₁ B hml hv
  obtain ⟨rfl, hP, hK, hG, hz⟩ := hv
  have hts := atoms_spec (ws := WT y cc maxL none) B.pre
  have hl := lv_entry av hn
  rw [lg_entry_eq]
  exact body p e s m below meth c _ ⟨⟨B.exec, B.bytes, hml, findClass_of_methodNamed B.named, fun w hw => hts w (List.mem_cons_of_mem _ hw)⟩, hK, hG⟩ ((name_of_methodNamed B.named B.method).1.trans hyn) B.returns B.notSynchronized ⟨hP, va_S.rf, hz, by omega⟩ hl
section GROW
variable {D : va_G} {T : Nat → ClassId} {h0 N : Nat} {p : Program} {l : Launch} {e : Env} {R : Room} {s : State} {m : MethodId} {args : Array Value} {below : List Frame} {meth : Method} {c : Code} {H : Heap} {locs : List Loc} {cells slots : Nat} {Q : State → Prop}
variable {cc : ByteArray} {pc nL : Nat} {ls : Array Slot} {rest : List Value} {own : String} {μ : ME}
theorem gn_ret {post : ME → Prop} {k sl : Nat} (F : GF D T h0 p s m args c cc nL own) (hr : meth.sig.returnType = none) (hlk : meth.locks = false) (hW : GS D T h0 s N μ H locs) (hp : post μ) (hdg : decode cc pc = .ok (.return_, 1)) :
    W p l e R s m args below meth c H locs k sl (MQ below (va_Qv post (GP D T h0 N) (GA h0)) args s k sl (GA h0)) (F0 m pc ls []) :=
  W.vret F.1.1 F.1.2.1 hr (fun t ht _ => ⟨⟨μ, rfl, hp, by show xP _ μ t.heap; rw [ht]; exact hW.1, by rw [ht]; exact hW.2.2.1⟩, hW.2.1.F ht⟩) hW.2.1.2.2 hdg hlk
theorem gn_grow {e0 : va_E} {H1 : Heap} (hW : GS D T h0 s N μ H locs) (z1 : H1.size = h0 + N + 1) (o1 : ∀ q, q < h0 + N → H1[q]? = H[q]?) (ha : va_at D classes (h0 + N, e0) H1) : GS D T h0 s (N + 1) (va_up μ N e0) H1 locs := by
  obtain ⟨hP, hS, hz, hh⟩ := hW
  have hk : ∀ (k : Nat) (x : Nat × va_E), (wl (fun i => h0 + i) N μ)[k]? = some x → H1[x.1]? = H[x.1]? := fun k x hx => o1 x.1 (by have := (hP k x hx).lt; omega)
  refine ⟨?_, ⟨by have := hS.1; omega, fun x h1 h2 => ?_, hS.2.2⟩, by omega, hh⟩
  · show va_P D classes (wl (fun i => h0 + i) (N + 1) (va_up μ N e0)) H1
    rw [wl_push]
    refine (va_P.kept hP hk).app (fun k x hx => ?_)
    have hz : k < 1 := (List.getElem?_eq_some_iff.mp hx).1
    rw [show k = 0 by omega] at hx
    cases hx
    exact ha
  · have := hS.1
    exact (o1 x (by omega)).trans (hS.2.1 x h1 h2)
theorem gn_new (F : GF D T h0 p s m args c cc nL own) (hW : GS D T h0 s N μ H locs) {ci index n : Nat} {C : String} {TT : u_T} {fs : List Value} (hc : classes[ci]? = some (C, TT, n)) (hin : ∀ w ∈ u_ws C TT n, w ∈ TB) (ty : Nat → FieldType) (hty : ∀ k, k < n → parseFieldDescriptor (TT k).2.2.1 = some (ty k))
    (hcl : Cond.classLink own index C ∈ TB) (hinst : Cond.instantiable C n ∈ TB) (hini : Cond.initialized C ∈ TB) (hfs : ∀ j, j < n → defaultValue (ty j) = vp_V fs j) (hcells : cells + 1 ≤ R.cells) (hslots : slots + n ≤ R.slots) (hdg : decode cc pc = .ok (.new index, 3))
    (kk : ∀ H1 : Heap, GS D T h0 s (N + 1) (va_up μ N (.inr (ci, fs))) H1 locs → W p l e R s m args below meth c H1 locs (cells + 1) (slots + n) Q (F0 m (pc + 3) ls (.ref (h0 + N) :: rest))) : W p l e R s m args below meth c H locs cells slots Q (F0 m pc ls rest) := by
  have hts := F.1.2.2.2.2
  have hKn := F.2.1.1.1 ci _ hc
  refine W.newcK F.1.1 F.1.2.1 F.1.2.2.2.1 (hts _ hcl) (hts _ hinst) (hts _ hini) rfl hdg hcells hslots hKn.2.1 hW.2.2.1 fun H1 kC hkC e1 z1 o1 => ?_
  exact kk H1 (gn_grow hW z1 o1 ⟨_, hc, (u_born ty hts hin hKn hkC e1 hty).to hfs⟩)
theorem gn_newa (F : GF D T h0 p s m args c cc nL own) (hW : GS D T h0 s N μ H locs) {atype : ArrayType} {ty : FieldType} {t n : Nat} (htp : newarray.typeOf atype = ty) (harr : Cond.arrayClass ty ∈ TB) (ht : (xtys (gx D T h0 0))[t]? = some (T t, ty)) (hRA : va_RA s (T t) ty → s.vm.findClass ("[" ++ ty.toString) = some (T t)) (hdf : defaultValue ty = .int 0) (hb4 : n * componentBytes ty ≤ 536870912) (hn : n < 2147483648) (hcells : cells + 1 ≤ R.cells) (hslots : slots + n ≤ R.slots) (hdg : decode cc pc = .ok (.newarray atype, 2))
    (kk : ∀ H1 : Heap, GS D T h0 s (N + 1) (va_up μ N (.inl (T t, n, .inl (fun _ => nI 0)))) H1 locs → W p l e R s m args below meth c H1 locs (cells + 1) (slots + n) Q (F0 m (pc + 2) ls (.ref (h0 + N) :: rest))) : W p l e R s m args below meth c H locs cells slots Q (F0 m pc ls (.int (nI n) :: rest)) := by
  have hts := F.1.2.2.2.2
  subst htp
  refine va_newaK F.1.1 F.1.2.1 (hts _ harr) rfl hdg rfl (fun q => by rw [Int32.lt_iff_toInt_lt, nI_toInt hn] at q; have e : (0 : Int32).toInt = 0 := rfl; omega) (nI_clamp hn) hb4 hcells hslots hW.2.2.1 fun H1 cA e1 z1 o1 hAr hNm => ?_
  have hcA : cA = T t := Option.some.inj (hNm.symm.trans (hRA (F.2.1.1.2 t _ ht).2))
  subst hcA
  refine kk H1 (gn_grow hW z1 o1 ?_)
  show H1[h0 + N]? = some (vp_cell _ _)
  rw [vp_cell_i, e1, hdf]
  rfl
theorem gn_newq (F : GF D T h0 p s m args c cc nL own) (hW : GS D T h0 s N μ H locs) {index n : Nat} (hcl : Cond.classLink own index RX0 ∈ TB) (hb4 : n * 4 ≤ 536870912) (hn : n < 2147483648) (hcells : cells + 1 ≤ R.cells) (hslots : slots + n ≤ R.slots) (hdg : decode cc pc = .ok (.anewarray index, 3))
    (kk : ∀ H1 : Heap, GS D T h0 s (N + 1) (va_up μ N (.inl (T 3, n, .inr (.inr (.inr (.inr (fun _ => none))))))) H1 locs → W p l e R s m args below meth c H1 locs (cells + 1) (slots + n) Q (F0 m (pc + 3) ls (.ref (h0 + N) :: rest))) : W p l e R s m args below meth c H locs cells slots Q (F0 m pc ls (.int (nI n) :: rest)) := by
  have hts := F.1.2.2.2.2
  have hz := hW.2.2.1
  refine W.anew (C := RX0) F.1.1 F.1.2.1 F.1.2.2.2.1 (hts _ hcl) (va_AO.use F.2.2.1) rfl hdg rfl (fun q => by rw [Int32.lt_iff_toInt_lt, nI_toInt hn] at q; have e : (0 : Int32).toInt = 0 := rfl; omega) (by rw [nI_clamp hn]; exact hb4) hcells (by rw [nI_clamp hn]; exact hslots) fun cA kA comp f1 f2 f3 f4 => ?_
  rw [nI_clamp hn, hz]
  generalize hH1 : H.push ({ cls := cA, slots := Array.replicate n .null, vm := .none } : Cell) = H1
  have z1 : H1.size = h0 + N + 1 := by rw [← hH1, Array.size_push, hz]
  have e1 : H1[h0 + N]? = some (arrV cA n (fun _ => .null)) := by rw [← hH1, ← hz, Array.getElem?_push_size, ← arrV_new]
  have o1 : ∀ q : Nat, q < h0 + N → H1[q]? = H[q]? := fun q hq => by rw [← hH1, Array.getElem?_push, if_neg (by omega)]
  obtain ⟨kA', comp', g1, g2, g3, g4⟩ := (F.2.1.1.2 3 _ (rfl : (xtys (gx D T h0 0))[3]? = some (T 3, .object RX0))).2
  have hcA : cA = T 3 := Option.some.inj (f1.symm.trans g4)
  subst hcA
  refine kk H1 (gn_grow hW z1 o1 ?_)
  show H1[h0 + N]? = some (vp_cell _ _)
  rw [vp_cell_q]
  exact e1
theorem W_size {g : JFrame} (kk : H.size ≤ s.heap.size + cells → W p l e R s m args below meth c H locs cells slots Q g) : W p l e R s m args below meth c H locs cells slots Q g := fun X hX Y => kk (by rw [← hX]; exact Y.same.2.2.1) X hX Y
theorem gn_lo {H1 : Heap} {locs1 : List Loc} (hP : va_P D classes (wl (fun i => h0 + i) N μ) H1) (hS : va_S (GA h0) s.heap H1 locs1) (hh : h0 ≤ s.heap.size) : h0 + N ≤ H1.size := by
  have := hS.1
  cases N with
  | zero => omega
  | succ N =>
    have := (hP N _ (wl_at (Nat.lt_succ_self N) rfl)).lt
    have : h0 + N < H1.size := this
    omega
theorem gn_put (F : GF D T h0 p s m args c cc nL own) (hin2 : meth.name = "<init>") (hW : GS D T h0 s N μ H locs) (hcs : s.heap.size + cells ≤ h0 + N) {i ci index n : Nat} {fs : List Value} {C : String} {TT : u_T} (hi : i < N) (hμ : μ i = .inr (ci, fs)) (hc : classes[ci]? = some (C, TT, n)) (hin : ∀ w ∈ u_ws C TT n, w ∈ TB) (ty0 : Nat → FieldType) (hty : ∀ k, k < n → parseFieldDescriptor (TT k).2.2.1 = some (ty0 k)) (hnm : ∀ a, a < n → ∀ b, b < n → a ≠ b → (TT a).2.1 ≠ (TT b).2.1) (k : Nat) (hk : k < n)
    (hlink : Cond.fieldLink own index (TT k).1 (TT k).2.1 (TT k).2.2.1 ∈ TB) (hfin : (TT k).2.2.2 = true) (hdecl : (TT k).1 = own) {v : Value} (hn : narrow (ty0 k) v = v) (hfit : fits (ty0 k) v = true) (hl : k < fs.length) (hdg : decode cc pc = .ok (.putfield index, 3))
    (kk : ∀ (H1 : Heap) (locs1 : List Loc), GS D T h0 s N (va_up μ i (.inr (ci, fs.set k v))) H1 locs1 → W p l e R s m args below meth c H1 locs1 cells slots Q (F0 m (pc + 3) ls rest)) : W p l e R s m args below meth c H locs cells slots Q (F0 m pc ls (v :: .ref (h0 + i) :: rest)) := by
  obtain ⟨hP, hS, hz, hh⟩ := hW
  refine va_putF (ws := wl (fun i => h0 + i) N μ) F.1.1 F.1.2.1 F.1.2.2.2.2 hin ty0 hty hnm F.1.2.2.2.1 F.2.1.1 hP (gD h0 N μ) hS i (wl_at hi hμ) hc k hk (F.1.2.2.2.2 _ hlink) (fun _ h => h) hfin hin2 hdecl (hty k hk) hn hfit hl hdg (fun H1 locs1 h1 _ h3 => ?_)
  rw [wl_set] at h1
  have h5 := gn_lo h1 h3 hh
  exact W_size (fun h4 => kk H1 locs1 ⟨h1, h3, by omega, hh⟩)
theorem gn_get (F : GF D T h0 p s m args c cc nL own) (hW : GS D T h0 s N μ H locs) {i ci index n : Nat} {fs : List Value} {C : String} {TT : u_T} (hi : i < N) (hμ : μ i = .inr (ci, fs)) (hc : classes[ci]? = some (C, TT, n)) (hin : ∀ w ∈ u_ws C TT n, w ∈ TB) (k : Nat) (hk : k < n)
    (hlink : Cond.fieldLink own index (TT k).1 (TT k).2.1 (TT k).2.2.1 ∈ TB) {v : Value} (hv : fs[k]? = some v) (hdg : decode cc pc = .ok (.getfield index, 3)) (kk : W p l e R s m args below meth c H locs cells slots Q (F0 m (pc + 3) ls (v :: rest))) : W p l e R s m args below meth c H locs cells slots Q (F0 m pc ls (.ref (h0 + i) :: rest)) :=
  va_get (ws := wl (fun i => h0 + i) N μ) F.1.1 F.1.2.1 F.1.2.2.2.2 hin F.1.2.2.2.1 F.2.1.1 hW.1 i (wl_at hi hμ) hc k hk (F.1.2.2.2.2 _ hlink) (fun _ h => h) hv hdg kk
theorem gn_ast (F : GF D T h0 p s m args c cc nL own) (hW : GS D T h0 s N μ H locs) (hcs : s.heap.size + cells ≤ h0 + N) {i j n q : Nat} {f : Nat → Option Nat} {vs : List Value} (hi : i < N) (hμ : μ i = .inl (T 3, n, .inr (.inr (.inr (.inr f))))) (hq : q < N) (hv : μ q = .inr (0, vs)) (hj : j < n) (hn : n < 2147483648) (hdg : decode cc pc = .ok (.aastore, 1))
    (kk : ∀ (H1 : Heap) (locs1 : List Loc), GS D T h0 s N (va_up μ i (.inl (T 3, n, .inr (.inr (.inr (.inr (va_up f j (some (h0 + q))))))))) H1 locs1 → W p l e R s m args below meth c H1 locs1 cells slots Q (F0 m (pc + 1) ls rest)) : W p l e R s m args below meth c H locs cells slots Q (F0 m pc ls (.ref (h0 + q) :: .int (nI j) :: .ref (h0 + i) :: rest)) := by
  obtain ⟨hP, hS, hz, hh⟩ := hW
  refine va_astq (ws := wl (fun i => h0 + i) N μ) (r := (RX0, TX0, 9)) F.1.1 F.1.2.1 F.2.1.1 hP (gD h0 N μ) hS i 3 q 0 (wl_at hi hμ) rfl (wl_at hq hv) rfl (vp_in_nI hj hn) hdg (fun H1 locs1 h1 _ h3 => ?_)
  rw [wl_set, nI_clamp (Nat.lt_trans hj hn)] at h1
  have h5 := gn_lo h1 h3 hh
  exact W_size (fun h4 => kk H1 locs1 ⟨h1, h3, by omega, hh⟩)
theorem gn_obj (F : GF D T h0 p s m args c cc nL own) {index a : Nat} (hl : ls.size = nL) (hlink : Cond.methodLink own index objectInit ∈ TB) (hf : 1 ≤ R.frames) (hlo : (rest.map fun v => v.category).sum ≤ 4) (hlo2 : 20 ≤ R.locals) (hdg : decode cc pc = .ok (.invokespecial index, 3)) (kk : W p l e R s m args below meth c H locs cells slots Q (F0 m (pc + 3) ls rest)) : W p l e R s m args below meth c H locs cells slots Q (F0 m pc ls (.ref a :: rest)) := by
  have hts := F.1.2.2.2.2
  exact W.objInit F.1.1 F.1.2.1 F.1.2.2.2.1 (hts _ hlink) (hts _ tw_59) (hts _ tw_60) rfl (by rw [F.1.2.2.1]; exact hl) rfl hdg hf (by show 2 * 0 + _ + 12 ≤ _; omega) kk
theorem gn_call {y : MethodName} {bytes : ByteArray} {maxL fr lo k sl b index : Nat} {post : ME → Prop} {lv : List (Nat × Value)} (F : GF D T h0 p s m args c cc nL own) (hW : GS D T h0 s N μ H locs) (hM : GT D T h0 l y bytes maxL fr lo N k sl [.ref (h0 + b)] μ post) (hcode : Cond.code y bytes maxL none ∈ TB) (hlink : Cond.methodLink own index y ∈ TB) (hini : Cond.initialized y.cls ∈ TB) (hins : Cond.instanceMethod y ∈ TB) (hyn : y.name = "<init>") (hd : y.cls ≠ "java/lang/invoke/MethodHandle" ∧ y.cls ≠ "java/lang/invoke/VarHandle" ∧ (parseMethodDescriptor y.desc).map (fun d => d.parameters.length) = some 0) (hR : fr + 1 ≤ R.frames ∧ 8 + (maxL + 11) + lo ≤ R.locals)
    (hl : lv_has ls nL lv) (hrm : (rest.map fun v => v.category).sum ≤ 8) (hdg : decode cc pc = .ok (.invokespecial index, 3)) (hz : cells + k ≤ R.cells ∧ slots + sl ≤ R.slots)
    (kk : ∀ (μ1 : ME) (H1 : Heap) (locs1 : List Loc), post μ1 → GS D T h0 s (N + k) μ1 H1 locs1 → W p l e R s m args below meth c H1 locs1 (cells + k) (slots + sl) Q (F0 m (pc + 3) ls rest)) : W p l e R s m args below meth c H locs cells slots Q (F0 m pc ls (.ref (h0 + b) :: rest)) := by
  have hts := F.1.2.2.2.2
  refine va_callv (A0 := GA h0) (A1 := GA h0) (va_runI (As := []) (rest := rest) F.1 hM (cwI 0 hts (wt_good hcode) rfl rfl rfl (hts _ hini) (hts _ hlink) (hts _ hins) hyn hd hR) ⟨GW_blind, fun U hU hV => ⟨rfl, GW_at hW.1 F.2.1 F.2.2 hW.2.2.1 hU hV⟩⟩ rfl rfl hl.1 rfl (lv_room hrm) hdg hz) hW.2.1 (fun _ _ h => h) (fun _ h => h) (fun u t H1 locs1 ht _ hp hB _ _ hS => ?_)
  obtain ⟨hP1, hz1⟩ := hB
  rw [ht] at hP1 hz1
  exact kk u H1 locs1 hp ⟨hP1, hS, hz1, hW.2.2.2⟩
theorem gn_callN {host : String} {y : MethodName} {bytes : ByteArray} {maxL fr lo k sl b index : Nat} {post : ME → Prop} {lv : List (Nat × Value)} (F : GF D T h0 p s m args c cc nL own) (hW : GS D T h0 s N μ H locs) (hM : GT D T h0 l y bytes maxL fr lo N k sl [.ref (h0 + b)] μ post) (hcode : Cond.code y bytes maxL none ∈ TB) (hlink : va_Nw (.methodLinkNest own index y host) s) (hini : Cond.initialized y.cls ∈ TB) (hins : Cond.instanceMethod y ∈ TB) (hyn : y.name = "<init>") (hd : y.cls ≠ "java/lang/invoke/MethodHandle" ∧ y.cls ≠ "java/lang/invoke/VarHandle" ∧ (parseMethodDescriptor y.desc).map (fun d => d.parameters.length) = some 0) (hR : fr + 1 ≤ R.frames ∧ 8 + (maxL + 11) + lo ≤ R.locals)
    (hl : lv_has ls nL lv) (hrm : (rest.map fun v => v.category).sum ≤ 8) (hdg : decode cc pc = .ok (.invokespecial index, 3)) (hz : cells + k ≤ R.cells ∧ slots + sl ≤ R.slots)
    (kk : ∀ (μ1 : ME) (H1 : Heap) (locs1 : List Loc), post μ1 → GS D T h0 s (N + k) μ1 H1 locs1 → W p l e R s m args below meth c H1 locs1 (cells + k) (slots + sl) Q (F0 m (pc + 3) ls rest)) : W p l e R s m args below meth c H locs cells slots Q (F0 m pc ls (.ref (h0 + b) :: rest)) := by
  have hts := F.1.2.2.2.2
  refine va_callv (A0 := GA h0) (A1 := GA h0) (va_runIN (As := []) (rest := rest) F.1 hM ⟨va_cnB 0 hts (wt_good hcode) rfl rfl rfl hlink (hts _ hini) hd hR, hyn, hts _ hins⟩ ⟨GW_blind, fun U hU hV => ⟨rfl, GW_at hW.1 F.2.1 F.2.2 hW.2.2.1 hU hV⟩⟩ rfl rfl hl.1 rfl (lv_room hrm) hdg hz) hW.2.1 (fun _ _ h => h) (fun _ h => h) (fun u t H1 locs1 ht _ hp hB _ _ hS => ?_)
  obtain ⟨hP1, hz1⟩ := hB
  rw [ht] at hP1 hz1
  exact kk u H1 locs1 hp ⟨hP1, hS, hz1, hW.2.2.2⟩
end GROW
