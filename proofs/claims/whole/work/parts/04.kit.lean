/-! own kit: a world of numbered cells; rows over it -/
abbrev CX : Type := va_G × (Nat → ClassId) × (Nat → Nat) × Nat
abbrev xD (cx : CX) : va_G := cx.1
abbrev xT (cx : CX) : Nat → ClassId := cx.2.1
abbrev xa (cx : CX) : Nat → Nat := cx.2.2.1
abbrev xN (cx : CX) : Nat := cx.2.2.2
abbrev ME : Type := Nat → va_E
abbrev xtys (cx : CX) : List (ClassId × FieldType) := [(xT cx 0, .int), (xT cx 1, .char), (xT cx 2, .boolean), (xT cx 3, .object RX0)]
def wl (ad : Nat → Nat) (N : Nat) (μ : ME) : va_W := (List.range N).map (fun i => (ad i, μ i))
theorem wl_at {ad : Nat → Nat} {N i : Nat} {μ : ME} {e : va_E} (hi : i < N) (h : μ i = e) : (wl ad N μ)[i]? = some (ad i, e) := by
  simp [wl, hi, h]
theorem wl_in {ad : Nat → Nat} {N k : Nat} {μ : ME} {q : Nat × va_E} (h : (wl ad N μ)[k]? = some q) : k < N ∧ q = (ad k, μ k) := by
  have hk : k < N := by
    have := (List.getElem?_eq_some_iff.mp h).1
    simpa [wl] using this
  refine ⟨hk, ?_⟩
  rw [wl_at hk rfl] at h
  exact (Option.some.inj h).symm
theorem wl_set {ad : Nat → Nat} {N i : Nat} {μ : ME} {e : va_E} : (wl ad N μ).set i (ad i, e) = wl ad N (va_up μ i e) := by
  apply List.ext_getElem?
  intro k
  by_cases hk : k < N
  · by_cases hki : k = i
    · subst hki
      rw [List.getElem?_set_self (by simpa [wl] using hk), wl_at hk rfl]
      simp [va_up]
    · rw [List.getElem?_set_ne (Ne.symm hki), wl_at hk rfl, wl_at hk rfl]
      simp [va_up, hki]
  · rw [List.getElem?_eq_none (by simp [wl]; omega), List.getElem?_eq_none (by simp [wl]; omega)]
def xA (cx : CX) : Nat → Prop := fun q => ∃ i, i < xN cx ∧ q = xa cx i
def xI (cx : CX) : Prop := ∀ i j, i < xN cx → j < xN cx → xa cx i = xa cx j → i = j
theorem wl_D {cx : CX} (hI : xI cx) (μ : ME) : va_D (xA cx) (wl (xa cx) (xN cx) μ) := by
  refine ⟨fun i j p q hp hq e => ?_, fun k q hq => ?_⟩
  · obtain ⟨h1, rfl⟩ := wl_in hp
    obtain ⟨h2, rfl⟩ := wl_in hq
    exact hI i j h1 h2 e
  · obtain ⟨h1, rfl⟩ := wl_in hq
    exact ⟨k, h1, rfl⟩
abbrev xP (cx : CX) (μ : ME) (H : Heap) : Prop := va_P (xD cx) classes (wl (xa cx) (xN cx) μ) H
def xNW (U : State) : Prop := va_Nw (.methodLinkNest RX0 96 yX4_isCarried RX4) U
abbrev xK (cx : CX) (U : State) : Prop := va_K (xD cx) classes (xtys cx) U ∧ xNW U
def WD (cx : CX) (μ : ME) (U : State) : Prop := xP cx μ U.heap ∧ xK cx U
def WP (cx : CX) (μ : ME) (U : State) : Prop := xP cx μ U.heap
def St (cx : CX) (s : State) (μ : ME) (H : Heap) (locs : List Loc) : Prop := xP cx μ H ∧ va_S (xA cx) s.heap H locs
def Fx (cx : CX) (p : Program) (s : State) (m : MethodId) (args : Array Value) (c : Code) (cc : ByteArray) (nL : Nat) (own : String) : Prop := CallFix p m c cc nL s args TB own ∧ xK cx s ∧ xI cx
abbrev WT (y : MethodName) (bytes : ByteArray) (maxL : Nat) (ret : Option FieldType) : List Cond := Cond.code y bytes maxL ret :: TB
abbrev Qi (cx : CX) (post : Int32 → ME → Prop) := va_Qi post (WP cx) (xA cx)
abbrev Ql (cx : CX) (post : Int64 → ME → Prop) := va_Ql post (WP cx) (xA cx)
abbrev Qv (cx : CX) (post : ME → Prop) := va_Qv post (WP cx) (xA cx)
/-- a contract over the world -/
abbrev MT (cx : CX) (l : Launch) (y : MethodName) (bytes : ByteArray) (maxL : Nat) (ret : Option FieldType) (fr lo : Nat) (av : List Value) (μ : ME) (Q : Array Value → State → Outcome → State → Prop) : Prop :=
  Met l y (WT y bytes maxL ret) { frames := fr, cells := 0, slots := 0, locals := lo } (va_Pc av (WD cx μ)) Q 0 0 (xA cx)
theorem WD_blind {cx : CX} {μ : ME} {av : List Value} : FrameBlind (va_Pc av (WD cx μ)) := by
  intro a U g mk h
  obtain ⟨h0, hP, hK, hN⟩ := h
  exact ⟨h0, hP, va_K.moved (u := U) (U := U.calling g mk a) (Vm.Alike.refl U.vm) hK, va_Nw.same (w := .methodLinkNest RX0 96 yX4_isCarried RX4) rfl (u := U) (U := U.calling g mk a) rfl hN⟩
theorem WD_at {cx : CX} {μ : ME} {s U : State} {H : Heap} (hP : xP cx μ H) (hK : xK cx s) (hU : U.heap = H) (hW : s.WarmedH U.vm) : WD cx μ U :=
  ⟨by rw [hU]; exact hP, va_K.moved hW.alike hK.1, va_Nw.warmM hW hK.2⟩
theorem mt_of {cx : CX} {l : Launch} {y : MethodName} {cc : ByteArray} {maxL fr lo : Nat} {ret : Option FieldType} {av : List Value} {μ : ME} {Qc : Array Value → State → Outcome → State → Prop} (hI : xI cx)
    (hy : plainName y.cls = true) (hn : (lg_sl av).length ≤ maxL)
    (body : ∀ (p : Program) (e : Env) (s : State) (m : MethodId) (below : List Frame) (meth : Method) (c : Code) (ls : Array Slot), Fx cx p s m av.toArray c cc maxL y.cls → meth.sig.returnType = ret → meth.locks = false → St cx s μ s.heap [] → lv_has ls maxL (lv_args 0 av) →
      W p l e { frames := fr, cells := 0, slots := 0, locals := lo } s m av.toArray below meth c s.heap [] 0 0 (MQ below Qc av.toArray s 0 0 (xA cx)) (F0 m 0 ls [])) : MT cx l y cc maxL ret fr lo av μ Qc := by
  refine Met.ofW (cc := cc) (maxL := maxL) (ret := ret) hy rfl ?_
  intro p e s m args below meth c s₁ B hml hv
  obtain ⟨rfl, hP, hK⟩ := hv
  have hts := atoms_spec (ws := WT y cc maxL ret) B.pre
  have hl := lv_entry av hn
  rw [lg_entry_eq]
  exact body p e s m below meth c _ ⟨⟨B.exec, B.bytes, hml, findClass_of_methodNamed B.named, fun w hw => hts w (List.mem_cons_of_mem _ hw)⟩, hK, hI⟩ B.returns B.notSynchronized ⟨hP, va_S.rf⟩ hl
section KIT
variable {cx : CX} {p : Program} {l : Launch} {e : Env} {R : Room} {s : State} {m : MethodId} {args : Array Value} {below : List Frame} {meth : Method} {c : Code} {H : Heap} {locs : List Loc} {cells slots : Nat} {Q : State → Prop}
variable {cc : ByteArray} {pc nL : Nat} {ls : Array Slot} {rest : List Value} {own : String} {μ : ME}
theorem rt_i {post : Int32 → ME → Prop} {v : Int32} (F : Fx cx p s m args c cc nL own) (hr : meth.sig.returnType = some .int) (hlk : meth.locks = false) (hW : St cx s μ H locs) (hp : post v μ) (hdg : decode cc pc = .ok (.ireturn, 1)) :
    W p l e R s m args below meth c H locs 0 0 (MQ below (Qi cx post) args s 0 0 (xA cx)) (F0 m pc ls [.int v]) :=
  W.iret F.1.1 F.1.2.1 hr (fun t ht _ => ⟨⟨v, μ, rfl, hp, by show xP cx μ t.heap; rw [ht]; exact hW.1⟩, hW.2.F ht⟩) hW.2.2.2 hdg hlk
theorem rt_z {post : Int32 → ME → Prop} {v : Int32} {ty : FieldType} (F : Fx cx p s m args c cc nL own) (hr : meth.sig.returnType = some ty) (hlk : meth.locks = false) (hn : narrow ty (.int v) = .int v) (hW : St cx s μ H locs) (hp : post v μ) (hdg : decode cc pc = .ok (.ireturn, 1)) :
    W p l e R s m args below meth c H locs 0 0 (MQ below (Qi cx post) args s 0 0 (xA cx)) (F0 m pc ls [.int v]) :=
  W.zret F.1.1 F.1.2.1 hr hn (fun t ht _ => ⟨⟨v, μ, rfl, hp, by show xP cx μ t.heap; rw [ht]; exact hW.1⟩, hW.2.F ht⟩) hW.2.2.2 hdg hlk
theorem rt_l {post : Int64 → ME → Prop} {v : Int64} (F : Fx cx p s m args c cc nL own) (hr : meth.sig.returnType = some .long) (hlk : meth.locks = false) (hW : St cx s μ H locs) (hp : post v μ) (hdg : decode cc pc = .ok (.lreturn, 1)) :
    W p l e R s m args below meth c H locs 0 0 (MQ below (Ql cx post) args s 0 0 (xA cx)) (F0 m pc ls [.long v]) :=
  W.lret F.1.1 F.1.2.1 hr (fun t ht _ => ⟨⟨v, μ, rfl, hp, by show xP cx μ t.heap; rw [ht]; exact hW.1⟩, hW.2.F ht⟩) hW.2.2.2 hdg hlk
theorem rt_v {post : ME → Prop} (F : Fx cx p s m args c cc nL own) (hr : meth.sig.returnType = none) (hlk : meth.locks = false) (hW : St cx s μ H locs) (hp : post μ) (hdg : decode cc pc = .ok (.return_, 1)) :
    W p l e R s m args below meth c H locs 0 0 (MQ below (Qv cx post) args s 0 0 (xA cx)) (F0 m pc ls []) :=
  W.vret F.1.1 F.1.2.1 hr (fun t ht _ => ⟨⟨μ, rfl, hp, by show xP cx μ t.heap; rw [ht]; exact hW.1⟩, hW.2.F ht⟩) hW.2.2.2 hdg hlk
theorem nv_get (F : Fx cx p s m args c cc nL own) (hW : St cx s μ H locs) {i ci index N : Nat} {fs : List Value} {C : String} {T : u_T} (hi : i < xN cx) (hμ : μ i = .inr (ci, fs)) (hc : classes[ci]? = some (C, T, N)) (hin : ∀ w ∈ u_ws C T N, w ∈ TB) (k : Nat) (hk : k < N)
    (hlink : Cond.fieldLink own index (T k).1 (T k).2.1 (T k).2.2.1 ∈ TB) {v : Value} (hv : fs[k]? = some v) (hdg : decode cc pc = .ok (.getfield index, 3)) (kk : W p l e R s m args below meth c H locs cells slots Q (F0 m (pc + 3) ls (v :: rest))) : W p l e R s m args below meth c H locs cells slots Q (F0 m pc ls (.ref (xa cx i) :: rest)) :=
  va_get F.1.1 F.1.2.1 F.1.2.2.2.2 hin F.1.2.2.2.1 F.2.1.1 hW.1 i (wl_at hi hμ) hc k hk (F.1.2.2.2.2 _ hlink) (fun _ h => h) hv hdg kk
theorem nv_put (F : Fx cx p s m args c cc nL own) (hW : St cx s μ H locs) {i ci index N : Nat} {fs : List Value} {C : String} {T : u_T} (hi : i < xN cx) (hμ : μ i = .inr (ci, fs)) (hc : classes[ci]? = some (C, T, N)) (hin : ∀ w ∈ u_ws C T N, w ∈ TB) (ty0 : Nat → FieldType) (hty : ∀ k, k < N → parseFieldDescriptor (T k).2.2.1 = some (ty0 k)) (hnm : ∀ a, a < N → ∀ b, b < N → a ≠ b → (T a).2.1 ≠ (T b).2.1) (k : Nat) (hk : k < N)
    (hlink : Cond.fieldLink own index (T k).1 (T k).2.1 (T k).2.2.1 ∈ TB) (hfin : (T k).2.2.2 = false) {v : Value} (hn : narrow (ty0 k) v = v) (hfit : fits (ty0 k) v = true) (hl : k < fs.length) (hdg : decode cc pc = .ok (.putfield index, 3))
    (kk : ∀ (H1 : Heap) (locs1 : List Loc), St cx s (va_up μ i (.inr (ci, fs.set k v))) H1 locs1 → W p l e R s m args below meth c H1 locs1 cells slots Q (F0 m (pc + 3) ls rest)) : W p l e R s m args below meth c H locs cells slots Q (F0 m pc ls (v :: .ref (xa cx i) :: rest)) :=
  va_put F.1.1 F.1.2.1 F.1.2.2.2.2 hin ty0 hty hnm F.1.2.2.2.1 F.2.1.1 hW.1 (wl_D F.2.2 μ) hW.2 i (wl_at hi hμ) hc k hk (F.1.2.2.2.2 _ hlink) (fun _ h => h) hfin (hty k hk) hn hfit hl hdg (fun H1 locs1 h1 _ h3 => kk H1 locs1 ⟨by rw [wl_set] at h1; exact h1, h3⟩)
theorem nv_iald (F : Fx cx p s m args c cc nL own) (hW : St cx s μ H locs) {i n : Nat} {f : Nat → Int32} {j : Int32} (hi : i < xN cx) (hμ : μ i = .inl (xT cx 0, n, .inl f)) (hj : vp_in j n) (hdg : decode cc pc = .ok (.iaload, 1))
    (kk : W p l e R s m args below meth c H locs cells slots Q (F0 m (pc + 1) ls (.int (f j.toNatClampNeg) :: rest))) : W p l e R s m args below meth c H locs cells slots Q (F0 m pc ls (.int j :: .ref (xa cx i) :: rest)) :=
  va_iald F.1.1 F.1.2.1 F.2.1.1 hW.1 i 0 (wl_at hi hμ) rfl hj hdg kk
theorem nv_ialdN (F : Fx cx p s m args c cc nL own) (hW : St cx s μ H locs) {i n j : Nat} {f : Nat → Int32} {x : Int32} (hi : i < xN cx) (hμ : μ i = .inl (xT cx 0, n, .inl f)) (hj : j < n) (hn : n < 2147483648) (hx : f j = x) (hdg : decode cc pc = .ok (.iaload, 1))
    (kk : W p l e R s m args below meth c H locs cells slots Q (F0 m (pc + 1) ls (.int x :: rest))) : W p l e R s m args below meth c H locs cells slots Q (F0 m pc ls (.int (nI j) :: .ref (xa cx i) :: rest)) :=
  nv_iald F hW hi hμ (vp_in_nI hj hn) hdg (by rw [nI_clamp (Nat.lt_trans hj hn), hx]; exact kk)
theorem nv_caldN (F : Fx cx p s m args c cc nL own) (hW : St cx s μ H locs) {i n j : Nat} {f : Nat → Int32} {x : Int32} (hi : i < xN cx) (hμ : μ i = .inl (xT cx 1, n, .inl f)) (hj : j < n) (hn : n < 2147483648) (hx : f j = x) (hdg : decode cc pc = .ok (.caload, 1))
    (kk : W p l e R s m args below meth c H locs cells slots Q (F0 m (pc + 1) ls (.int x :: rest))) : W p l e R s m args below meth c H locs cells slots Q (F0 m pc ls (.int (nI j) :: .ref (xa cx i) :: rest)) :=
  va_cald F.1.1 F.1.2.1 F.2.1.1 hW.1 i 1 (wl_at hi hμ) rfl (vp_in_nI hj hn) hdg (by rw [nI_clamp (Nat.lt_trans hj hn), hx]; exact kk)
theorem nv_zaldN (F : Fx cx p s m args c cc nL own) (hW : St cx s μ H locs) {i n j : Nat} {f : Nat → Int32} {x : Int32} (hi : i < xN cx) (hμ : μ i = .inl (xT cx 2, n, .inl f)) (hj : j < n) (hn : n < 2147483648) (hx : f j = x) (hdg : decode cc pc = .ok (.baload, 1))
    (kk : W p l e R s m args below meth c H locs cells slots Q (F0 m (pc + 1) ls (.int x :: rest))) : W p l e R s m args below meth c H locs cells slots Q (F0 m pc ls (.int (nI j) :: .ref (xa cx i) :: rest)) :=
  va_zald F.1.1 F.1.2.1 F.2.1.1 hW.1 i 2 (wl_at hi hμ) rfl (vp_in_nI hj hn) hdg (by rw [nI_clamp (Nat.lt_trans hj hn), hx]; exact kk)
theorem nv_aaldN (F : Fx cx p s m args c cc nL own) (hW : St cx s μ H locs) {i n j a : Nat} {f : Nat → Option Nat} (hi : i < xN cx) (hμ : μ i = .inl (xT cx 3, n, .inr (.inr (.inr (.inr f))))) (hj : j < n) (hn : n < 2147483648) (hx : f j = some a) (hdg : decode cc pc = .ok (.aaload, 1))
    (kk : W p l e R s m args below meth c H locs cells slots Q (F0 m (pc + 1) ls (.ref a :: rest))) : W p l e R s m args below meth c H locs cells slots Q (F0 m pc ls (.int (nI j) :: .ref (xa cx i) :: rest)) :=
  va_aldq F.1.1 F.1.2.1 F.2.1.1 hW.1 i 3 (wl_at hi hμ) rfl (vp_in_nI hj hn) hdg (by rw [nI_clamp (Nat.lt_trans hj hn), hx]; exact kk)
theorem nv_iastN (F : Fx cx p s m args c cc nL own) (hW : St cx s μ H locs) {i n j : Nat} {f : Nat → Int32} {x : Int32} (hi : i < xN cx) (hμ : μ i = .inl (xT cx 0, n, .inl f)) (hj : j < n) (hn : n < 2147483648) (hdg : decode cc pc = .ok (.iastore, 1))
    (kk : ∀ (H1 : Heap) (locs1 : List Loc), St cx s (va_up μ i (.inl (xT cx 0, n, .inl (upd f j x)))) H1 locs1 → W p l e R s m args below meth c H1 locs1 cells slots Q (F0 m (pc + 1) ls rest)) : W p l e R s m args below meth c H locs cells slots Q (F0 m pc ls (.int x :: .int (nI j) :: .ref (xa cx i) :: rest)) :=
  va_iast F.1.1 F.1.2.1 F.2.1.1 hW.1 (wl_D F.2.2 μ) hW.2 i 0 (wl_at hi hμ) rfl (vp_in_nI hj hn) hdg (fun H1 locs1 h1 _ h3 => kk H1 locs1 ⟨by rw [wl_set, nI_clamp (Nat.lt_trans hj hn)] at h1; exact h1, h3⟩)
theorem nv_castN (F : Fx cx p s m args c cc nL own) (hW : St cx s μ H locs) {i n j : Nat} {f : Nat → Int32} {x : Int32} (hi : i < xN cx) (hμ : μ i = .inl (xT cx 1, n, .inl f)) (hj : j < n) (hn : n < 2147483648) (hx : vp_nar .char x = x) (hdg : decode cc pc = .ok (.castore, 1))
    (kk : ∀ (H1 : Heap) (locs1 : List Loc), St cx s (va_up μ i (.inl (xT cx 1, n, .inl (upd f j x)))) H1 locs1 → W p l e R s m args below meth c H1 locs1 cells slots Q (F0 m (pc + 1) ls rest)) : W p l e R s m args below meth c H locs cells slots Q (F0 m pc ls (.int x :: .int (nI j) :: .ref (xa cx i) :: rest)) :=
  va_cast F.1.1 F.1.2.1 F.2.1.1 hW.1 (wl_D F.2.2 μ) hW.2 i 1 (wl_at hi hμ) rfl (vp_in_nI hj hn) hdg (fun H1 locs1 h1 _ h3 => kk H1 locs1 ⟨by rw [wl_set, nI_clamp (Nat.lt_trans hj hn), hx] at h1; exact h1, h3⟩)
theorem nv_zastN (F : Fx cx p s m args c cc nL own) (hW : St cx s μ H locs) {i n j : Nat} {f : Nat → Int32} {x : Int32} (hi : i < xN cx) (hμ : μ i = .inl (xT cx 2, n, .inl f)) (hj : j < n) (hn : n < 2147483648) (hx : vp_nar .boolean x = x) (hdg : decode cc pc = .ok (.bastore, 1))
    (kk : ∀ (H1 : Heap) (locs1 : List Loc), St cx s (va_up μ i (.inl (xT cx 2, n, .inl (upd f j x)))) H1 locs1 → W p l e R s m args below meth c H1 locs1 cells slots Q (F0 m (pc + 1) ls rest)) : W p l e R s m args below meth c H locs cells slots Q (F0 m pc ls (.int x :: .int (nI j) :: .ref (xa cx i) :: rest)) :=
  va_zast F.1.1 F.1.2.1 F.2.1.1 hW.1 (wl_D F.2.2 μ) hW.2 i 2 (wl_at hi hμ) rfl (vp_in_nI hj hn) hdg (fun H1 locs1 h1 _ h3 => kk H1 locs1 ⟨by rw [wl_set, nI_clamp (Nat.lt_trans hj hn), hx] at h1; exact h1, h3⟩)
/-- System.arraycopy between two different int rows, from 0 to 0 -/
theorem nv_copy (F : Fx cx p s m args c cc nL own) (hW : St cx s μ H locs) (hl : ls.size = nL) {index i j n0 n1 n : Nat} {f g : Nat → Int32} (hlink : Cond.methodLink own index arraycopyName ∈ TB) (hnat : Cond.native arraycopyName ∈ TB) (hst : Cond.static arraycopyName ∈ TB) (hini : Cond.initialized "java/lang/System" ∈ TB)
    (hi : i < xN cx) (hj : j < xN cx) (hμ : μ i = .inl (xT cx 0, n0, .inl f)) (hν : μ j = .inl (xT cx 0, n1, .inl g)) (h0 : n ≤ n0) (h1 : n ≤ n1) (hn : n < 2147483648) (hfr : 1 ≤ R.frames) (hlo : (rest.map fun v => v.category).sum + (nativeFrameWords "java/lang/System" "arraycopy" 5 + 11) ≤ R.locals) (hdg : decode cc pc = .ok (.invokestatic index, 3))
    (kk : ∀ (H1 : Heap) (locs1 : List Loc), St cx s (va_up μ j (.inl (xT cx 0, n1, .inl (va_cpy f g 0 0 n)))) H1 locs1 → W p l e R s m args below meth c H1 locs1 cells slots Q (F0 m (pc + 3) ls rest)) : W p l e R s m args below meth c H locs cells slots Q (F0 m pc ls (.int (nI n) :: .int (nI 0) :: .ref (xa cx j) :: .int (nI 0) :: .ref (xa cx i) :: rest)) := by
  have c0 : (nI 0).toNatClampNeg = 0 := nI_clamp (by omega)
  have cn : (nI n).toNatClampNeg = n := nI_clamp hn
  refine va_copyi (ty := .int) F.1.1 F.1.2.1 (F.1.2.2.1.trans hl.symm) F.1.2.2.2.1 (F.1.2.2.2.2 _ hlink) (F.1.2.2.2.2 _ hnat) (F.1.2.2.2.2 _ hst) (F.1.2.2.2.2 _ hini) F.2.1.1 hW.1 (wl_D F.2.2 μ) hW.2 i j 0 0 (wl_at hi hμ) (wl_at hj hν) rfl rfl rfl (nI_pos (by omega)) (nI_pos (by omega)) (nI_pos hn) (by rw [c0, cn]; omega) (by rw [c0, cn]; omega) (fun _ _ => rfl) hfr hlo hdg (fun H1 locs1 h1 _ h3 => kk H1 locs1 ⟨?_, h3⟩)
  rw [wl_set, c0, cn] at h1
  exact h1
/-- what a virtual call needs of the tables -/
def CV (own : String) (index : Nat) (C : String) (y : MethodName) (bytes : ByteArray) (maxL : Nat) (ret : Option FieldType) (n : Nat) : Prop := GoodIn TB (wsV own index C y (WT y bytes maxL ret)) ∧ y.cls = C ∧ y.cls ≠ "java/lang/invoke/MethodHandle" ∧ y.cls ≠ "java/lang/invoke/VarHandle" ∧ (parseMethodDescriptor y.desc).map (fun d => d.parameters.length) = some n
def CS (own : String) (index : Nat) (y : MethodName) (bytes : ByteArray) (maxL : Nat) (ret : Option FieldType) (n : Nat) : Prop := GoodIn TB (va_wsS own index y (WT y bytes maxL ret)) ∧ y.cls ≠ "java/lang/invoke/MethodHandle" ∧ y.cls ≠ "java/lang/invoke/VarHandle" ∧ (parseMethodDescriptor y.desc).map (fun d => d.parameters.length) = some n
theorem tb_good {w : Cond} (h : w ∈ TB) : w ∈ TB ∧ ((w.onTables && w.keeps) = true ∨ ∃ ty, w = .arrayClass ty) := ⟨h, good_of_word (List.all_eq_true.mp TB_good w h)⟩
theorem wt_good {y : MethodName} {bytes : ByteArray} {maxL : Nat} {ret : Option FieldType} (h : Cond.code y bytes maxL ret ∈ TB) : GoodIn TB (WT y bytes maxL ret) := by
  intro w hw
  rcases List.mem_cons.mp hw with rfl | hw
  · exact tb_good h
  · exact tb_good hw
theorem cv_mk {C : String} {index n maxL : Nat} {y : MethodName} {bytes : ByteArray} {ret : Option FieldType} (h1 : Cond.methodLink own index y ∈ TB) (h2 : Cond.instanceMethod y ∈ TB) (h3 : Cond.selects C y y ∈ TB) (h4 : Cond.initialized C ∈ TB) (h5 : Cond.code y bytes maxL ret ∈ TB) (hd : y.cls = C ∧ y.cls ≠ "java/lang/invoke/MethodHandle" ∧ y.cls ≠ "java/lang/invoke/VarHandle" ∧ (parseMethodDescriptor y.desc).map (fun d => d.parameters.length) = some n) : CV own index C y bytes maxL ret n := by
  refine ⟨fun w hw => ?_, hd⟩
  rcases List.mem_append.mp hw with hw | hw
  · simp only [List.mem_cons, List.not_mem_nil, or_false] at hw
    rcases hw with rfl | rfl | rfl | rfl
    · exact tb_good h1
    · exact tb_good h2
    · exact tb_good h3
    · exact tb_good h4
  · exact wt_good h5 w hw
theorem cs_mk {index n maxL : Nat} {y : MethodName} {bytes : ByteArray} {ret : Option FieldType} (h1 : Cond.methodLink own index y ∈ TB) (h2 : Cond.static y ∈ TB) (h4 : Cond.initialized y.cls ∈ TB) (h5 : Cond.code y bytes maxL ret ∈ TB) (hd : y.cls ≠ "java/lang/invoke/MethodHandle" ∧ y.cls ≠ "java/lang/invoke/VarHandle" ∧ (parseMethodDescriptor y.desc).map (fun d => d.parameters.length) = some n) : CS own index y bytes maxL ret n := by
  refine ⟨fun w hw => ?_, hd⟩
  rcases List.mem_append.mp hw with hw | hw
  · simp only [List.mem_cons, List.not_mem_nil, or_false] at hw
    rcases hw with rfl | rfl | rfl
    · exact tb_good h1
    · exact tb_good h2
    · exact tb_good h4
  · exact wt_good h5 w hw
variable {y : MethodName} {bytes : ByteArray} {maxL fr lo n index i ci N : Nat} {ret : Option FieldType} {C : String} {T : u_T} {fs As st0 : List Value} {lv : List (Nat × Value)}
theorem cl_run {Qc : Array Value → State → Outcome → State → Prop} (F : Fx cx p s m args c cc nL own) (hW : St cx s μ H locs) (hg : CV own index C y bytes maxL ret n) (hM : MT cx l y bytes maxL ret fr lo (.ref (xa cx i) :: As) μ Qc) (hR : fr + 1 ≤ R.frames ∧ 8 + (maxL + 11) + lo ≤ R.locals) (hi : i < xN cx) (hμ : μ i = .inr (ci, fs)) (hc : classes[ci]? = some (C, T, N)) (hn : As.length = n) (hst : st0 = As.reverse ++ .ref (xa cx i) :: rest) (hl : lv_has ls nL lv) (hrm : (rest.map fun v => v.category).sum ≤ 8) (hdg : decode cc pc = .ok (.invokevirtual index, 3)) (hz : cells ≤ R.cells ∧ slots ≤ R.slots) :
    va_Run p l e R s m args below meth c H locs cells slots 0 0 (F0 m pc ls st0) rest (Qc (Value.ref (xa cx i) :: As).toArray) (xA cx) :=
  va_runV (C := C) F.1 hM (cwV n F.1.2.2.2.2 hg.1 rfl rfl rfl hg.2 hR) ⟨WD_blind, va_recv F.2.1.1 hW.1 hc (wl_at hi hμ), fun U hU hV => ⟨rfl, WD_at hW.1 F.2.1 hU hV⟩⟩ rfl hn hl.1 hst (lv_room hrm) hdg hz
theorem cl_runS {Qc : Array Value → State → Outcome → State → Prop} (F : Fx cx p s m args c cc nL own) (hW : St cx s μ H locs) (hg : CS own index y bytes maxL ret n) (hM : MT cx l y bytes maxL ret fr lo As μ Qc) (hR : fr + 1 ≤ R.frames ∧ 8 + (maxL + 11) + lo ≤ R.locals) (hn : As.length = n) (hst : st0 = As.reverse ++ rest) (hl : lv_has ls nL lv) (hrm : (rest.map fun v => v.category).sum ≤ 8) (hdg : decode cc pc = .ok (.invokestatic index, 3)) (hz : cells ≤ R.cells ∧ slots ≤ R.slots) :
    va_Run p l e R s m args below meth c H locs cells slots 0 0 (F0 m pc ls st0) rest (Qc As.toArray) (xA cx) :=
  va_runS F.1 hM (va_cwS n F.1.2.2.2.2 hg.1 rfl rfl rfl hg.2 hR) ⟨WD_blind, fun U hU hV => ⟨rfl, WD_at hW.1 F.2.1 hU hV⟩⟩ rfl hn hl.1 hst (lv_room hrm) hdg hz
theorem cl_i {post : Int32 → ME → Prop} {a : Array Value} (hr : va_Run p l e R s m args below meth c H locs cells slots 0 0 (F0 m pc ls st0) rest (Qi cx post a) (xA cx)) (hW : St cx s μ H locs)
    (kk : ∀ (r : Int32) (μ1 : ME) (H1 : Heap) (locs1 : List Loc), post r μ1 → St cx s μ1 H1 locs1 → W p l e R s m args below meth c H1 locs1 cells slots Q (F0 m (pc + 3) ls (.int r :: rest))) : W p l e R s m args below meth c H locs cells slots Q (F0 m pc ls st0) :=
  va_calli hr hW.2 (fun _ _ h => h) (fun _ h => h) (fun r u t H1 locs1 ht _ hp hB _ _ hS => kk r u H1 locs1 hp ⟨by rw [← ht]; exact hB, hS⟩)
theorem cl_l {post : Int64 → ME → Prop} {a : Array Value} (hr : va_Run p l e R s m args below meth c H locs cells slots 0 0 (F0 m pc ls st0) rest (Ql cx post a) (xA cx)) (hW : St cx s μ H locs)
    (kk : ∀ (r : Int64) (μ1 : ME) (H1 : Heap) (locs1 : List Loc), post r μ1 → St cx s μ1 H1 locs1 → W p l e R s m args below meth c H1 locs1 cells slots Q (F0 m (pc + 3) ls (.long r :: rest))) : W p l e R s m args below meth c H locs cells slots Q (F0 m pc ls st0) :=
  va_calll hr hW.2 (fun _ _ h => h) (fun _ h => h) (fun r u t H1 locs1 ht _ hp hB _ _ hS => kk r u H1 locs1 hp ⟨by rw [← ht]; exact hB, hS⟩)
theorem cl_v {post : ME → Prop} {a : Array Value} (hr : va_Run p l e R s m args below meth c H locs cells slots 0 0 (F0 m pc ls st0) rest (Qv cx post a) (xA cx)) (hW : St cx s μ H locs)
    (kk : ∀ (μ1 : ME) (H1 : Heap) (locs1 : List Loc), post μ1 → St cx s μ1 H1 locs1 → W p l e R s m args below meth c H1 locs1 cells slots Q (F0 m (pc + 3) ls rest)) : W p l e R s m args below meth c H locs cells slots Q (F0 m pc ls st0) :=
  va_callv hr hW.2 (fun _ _ h => h) (fun _ h => h) (fun u t H1 locs1 ht _ hp hB _ _ hS => kk u H1 locs1 hp ⟨by rw [← ht]; exact hB, hS⟩)
end KIT
