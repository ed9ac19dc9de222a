/-! contracts by value: what a method answers, and what then holds of the world -/
abbrev Ei (cx : CX) (v : Int32) (P : ME → Prop) := Qi cx (fun r μ1 => r = v ∧ P μ1)
abbrev Pi (cx : CX) (μ : ME) (v : Int32) := Qi cx (fun r μ1 => r = v ∧ μ1 = μ)
abbrev El (cx : CX) (v : Int64) (P : ME → Prop) := Ql cx (fun r μ1 => r = v ∧ P μ1)
abbrev Pl (cx : CX) (μ : ME) (v : Int64) := Ql cx (fun r μ1 => r = v ∧ μ1 = μ)
section KIT2
variable {cx : CX} {p : Program} {l : Launch} {e : Env} {R : Room} {s : State} {m : MethodId} {args : Array Value} {below : List Frame} {meth : Method} {c : Code} {H : Heap} {locs : List Loc} {cells slots : Nat} {Q : State → Prop}
variable {cc : ByteArray} {pc nL : Nat} {ls : Array Slot} {rest st0 : List Value} {own : String} {μ : ME}
theorem cl_ie {v : Int32} {P : ME → Prop} {a : Array Value} (hr : va_Run p l e R s m args below meth c H locs cells slots 0 0 (F0 m pc ls st0) rest (Ei cx v P a) (xA cx)) (hW : St cx s μ H locs)
    (kk : ∀ (μ1 : ME) (H1 : Heap) (locs1 : List Loc), P μ1 → St cx s μ1 H1 locs1 → W p l e R s m args below meth c H1 locs1 cells slots Q (F0 m (pc + 3) ls (.int v :: rest))) : W p l e R s m args below meth c H locs cells slots Q (F0 m pc ls st0) :=
  cl_i hr hW (fun r μ1 H1 locs1 hq h => by rw [hq.1]; exact kk μ1 H1 locs1 hq.2 h)
theorem cl_ip {v : Int32} {a : Array Value} (hr : va_Run p l e R s m args below meth c H locs cells slots 0 0 (F0 m pc ls st0) rest (Pi cx μ v a) (xA cx)) (hW : St cx s μ H locs)
    (kk : ∀ (H1 : Heap) (locs1 : List Loc), St cx s μ H1 locs1 → W p l e R s m args below meth c H1 locs1 cells slots Q (F0 m (pc + 3) ls (.int v :: rest))) : W p l e R s m args below meth c H locs cells slots Q (F0 m pc ls st0) :=
  cl_i hr hW (fun r μ1 H1 locs1 hq h => by rw [hq.1]; exact kk H1 locs1 (by rw [← hq.2]; exact h))
theorem cl_lp {v : Int64} {a : Array Value} (hr : va_Run p l e R s m args below meth c H locs cells slots 0 0 (F0 m pc ls st0) rest (Pl cx μ v a) (xA cx)) (hW : St cx s μ H locs)
    (kk : ∀ (H1 : Heap) (locs1 : List Loc), St cx s μ H1 locs1 → W p l e R s m args below meth c H1 locs1 cells slots Q (F0 m (pc + 3) ls (.long v :: rest))) : W p l e R s m args below meth c H locs cells slots Q (F0 m pc ls st0) :=
  cl_l hr hW (fun r μ1 H1 locs1 hq h => by rw [hq.1]; exact kk H1 locs1 (by rw [← hq.2]; exact h))
theorem rt_ie {P : ME → Prop} {v w : Int32} (F : Fx cx p s m args c cc nL own) (hr : meth.sig.returnType = some .int) (hlk : meth.locks = false) (hW : St cx s μ H locs) (hv : v = w) (hp : P μ) (hdg : decode cc pc = .ok (.ireturn, 1)) :
    W p l e R s m args below meth c H locs 0 0 (MQ below (Ei cx w P) args s 0 0 (xA cx)) (F0 m pc ls [.int v]) := rt_i F hr hlk hW ⟨hv, hp⟩ hdg
theorem rt_ip {ν : ME} {v w : Int32} (F : Fx cx p s m args c cc nL own) (hr : meth.sig.returnType = some .int) (hlk : meth.locks = false) (hW : St cx s μ H locs) (hv : v = w) (hp : μ = ν) (hdg : decode cc pc = .ok (.ireturn, 1)) :
    W p l e R s m args below meth c H locs 0 0 (MQ below (Pi cx ν w) args s 0 0 (xA cx)) (F0 m pc ls [.int v]) := rt_i F hr hlk hW ⟨hv, hp⟩ hdg
theorem rt_ze {P : ME → Prop} {v : Int32} {w : Bool} (F : Fx cx p s m args c cc nL own) (hr : meth.sig.returnType = some .boolean) (hlk : meth.locks = false) (hW : St cx s μ H locs) (hv : v = b2 w) (hp : P μ) (hdg : decode cc pc = .ok (.ireturn, 1)) :
    W p l e R s m args below meth c H locs 0 0 (MQ below (Ei cx (b2 w) P) args s 0 0 (xA cx)) (F0 m pc ls [.int v]) := rt_z F hr hlk (by rw [hv]; exact b2_nar w) hW ⟨hv, hp⟩ hdg
theorem rt_zp {ν : ME} {v : Int32} {w : Bool} (F : Fx cx p s m args c cc nL own) (hr : meth.sig.returnType = some .boolean) (hlk : meth.locks = false) (hW : St cx s μ H locs) (hv : v = b2 w) (hp : μ = ν) (hdg : decode cc pc = .ok (.ireturn, 1)) :
    W p l e R s m args below meth c H locs 0 0 (MQ below (Pi cx ν (b2 w)) args s 0 0 (xA cx)) (F0 m pc ls [.int v]) := rt_z F hr hlk (by rw [hv]; exact b2_nar w) hW ⟨hv, hp⟩ hdg
theorem rt_cp {ν : ME} {v w : Int32} (F : Fx cx p s m args c cc nL own) (hr : meth.sig.returnType = some .char) (hlk : meth.locks = false) (hn : narrow .char (.int v) = .int v) (hW : St cx s μ H locs) (hv : v = w) (hp : μ = ν) (hdg : decode cc pc = .ok (.ireturn, 1)) :
    W p l e R s m args below meth c H locs 0 0 (MQ below (Pi cx ν w) args s 0 0 (xA cx)) (F0 m pc ls [.int v]) := rt_z F hr hlk hn hW ⟨hv, hp⟩ hdg
theorem rt_lp {ν : ME} {v w : Int64} (F : Fx cx p s m args c cc nL own) (hr : meth.sig.returnType = some .long) (hlk : meth.locks = false) (hW : St cx s μ H locs) (hv : v = w) (hp : μ = ν) (hdg : decode cc pc = .ok (.lreturn, 1)) :
    W p l e R s m args below meth c H locs 0 0 (MQ below (Pl cx ν w) args s 0 0 (xA cx)) (F0 m pc ls [.long v]) := rt_l F hr hlk hW ⟨hv, hp⟩ hdg
theorem rt_le {P : ME → Prop} {v w : Int64} (F : Fx cx p s m args c cc nL own) (hr : meth.sig.returnType = some .long) (hlk : meth.locks = false) (hW : St cx s μ H locs) (hv : v = w) (hp : P μ) (hdg : decode cc pc = .ok (.lreturn, 1)) :
    W p l e R s m args below meth c H locs 0 0 (MQ below (El cx w P) args s 0 0 (xA cx)) (F0 m pc ls [.long v]) := rt_l F hr hlk hW ⟨hv, hp⟩ hdg
end KIT2
section KIT3
variable {cx : CX} {p : Program} {l : Launch} {e : Env} {R : Room} {s : State} {m : MethodId} {args : Array Value} {below : List Frame} {meth : Method} {c : Code} {H : Heap} {locs : List Loc} {cells slots : Nat} {Q : State → Prop}
variable {cc : ByteArray} {pc nL fr lo : Nat} {ls : Array Slot} {rest st0 As : List Value} {own : String} {μ : ME} {lv : List (Nat × Value)}
theorem tw_nest : True := trivial
theorem cl_runN {Qc : Array Value → State → Outcome → State → Prop} (F : Fx cx p s m args c cc nL RX0) (hW : St cx s μ H locs) (_ : True) (hM : MT cx l yX4_isCarried cX4_isCarried 1 (some .boolean) fr lo As μ Qc) (hR : fr + 1 ≤ R.frames ∧ 8 + (1 + 11) + lo ≤ R.locals) (hn : As.length = 1) (hst : st0 = As.reverse ++ rest) (hl : lv_has ls nL lv) (hrm : (rest.map fun v => v.category).sum ≤ 8) (hdg : decode cc pc = .ok (.invokestatic 96, 3)) (hz : cells ≤ R.cells ∧ slots ≤ R.slots) :
    va_Run p l e R s m args below meth c H locs cells slots 0 0 (F0 m pc ls st0) rest (Qc As.toArray) (xA cx) :=
  va_runSN F.1 hM ⟨va_cnB 1 F.1.2.2.2.2 (wt_good tw_333) rfl rfl rfl F.2.1.2 (F.1.2.2.2.2 _ tw_44) (by decide +kernel) hR, F.1.2.2.2.2 _ tw_332, trivial⟩ ⟨WD_blind, fun U hU hV => ⟨rfl, WD_at hW.1 F.2.1 hU hV⟩⟩ rfl hn hl.1 hst (lv_room hrm) hdg hz
theorem nw_ladd (F : Fx cx p s m args c cc nL own) {a b : Nat} (hdg : decode cc pc = .ok (.ladd, 1)) (k : W p l e R s m args below meth c H locs cells slots Q (F0 m (pc + 1) ls (.long (lN (a + b)) :: rest))) : W p l e R s m args below meth c H locs cells slots Q (F0 m pc ls (.long (lN b) :: .long (lN a) :: rest)) := lv_ladd F.1.1 F.1.2.1 hdg (by rw [lN_add]; exact k)
theorem nw_lmul (F : Fx cx p s m args c cc nL own) {a b : Nat} (hdg : decode cc pc = .ok (.lmul, 1)) (k : W p l e R s m args below meth c H locs cells slots Q (F0 m (pc + 1) ls (.long (lN (a * b)) :: rest))) : W p l e R s m args below meth c H locs cells slots Q (F0 m pc ls (.long (lN b) :: .long (lN a) :: rest)) := lv_lmul F.1.1 F.1.2.1 hdg (by rw [lN_mul]; exact k)
theorem nw_lsub (F : Fx cx p s m args c cc nL own) {a b : Nat} (h : b ≤ a) (hdg : decode cc pc = .ok (.lsub, 1)) (k : W p l e R s m args below meth c H locs cells slots Q (F0 m (pc + 1) ls (.long (lN (a - b)) :: rest))) : W p l e R s m args below meth c H locs cells slots Q (F0 m pc ls (.long (lN b) :: .long (lN a) :: rest)) := lv_lsub F.1.1 F.1.2.1 hdg (by rw [lN_sub h]; exact k)
theorem nw_ldiv (F : Fx cx p s m args c cc nL own) {a b : Nat} (ha : a < 9223372036854775808) (h0 : 0 < b) (hd : b < 9223372036854775808) (hdg : decode cc pc = .ok (.ldiv, 1)) (k : W p l e R s m args below meth c H locs cells slots Q (F0 m (pc + 1) ls (.long (lN (a / b)) :: rest))) : W p l e R s m args below meth c H locs cells slots Q (F0 m pc ls (.long (lN b) :: .long (lN a) :: rest)) := lv_ldiv F.1.1 F.1.2.1 hdg (fun q => absurd ((pk_lEQ hd (by decide)).mp (show lN b = lN 0 from q)) (by omega)) (by rw [pk_lDiv ha h0 hd]; exact k)
theorem nw_lrem (F : Fx cx p s m args c cc nL own) {a b : Nat} (ha : a < 9223372036854775808) (h0 : 0 < b) (hd : b < 9223372036854775808) (hdg : decode cc pc = .ok (.lrem, 1)) (k : W p l e R s m args below meth c H locs cells slots Q (F0 m (pc + 1) ls (.long (lN (a % b)) :: rest))) : W p l e R s m args below meth c H locs cells slots Q (F0 m pc ls (.long (lN b) :: .long (lN a) :: rest)) := lv_lrem F.1.1 F.1.2.1 hdg (fun q => absurd ((pk_lEQ hd (by decide)).mp (show lN b = lN 0 from q)) (by omega)) (by rw [pk_lRem ha h0 hd]; exact k)
end KIT3
section NUM2
variable {cx : CX} {p : Program} {l : Launch} {e : Env} {R : Room} {s : State} {m : MethodId} {args : Array Value} {below : List Frame} {meth : Method} {c : Code} {H : Heap} {locs : List Loc} {cells slots : Nat} {Q : State → Prop}
variable {cc : ByteArray} {pc nL : Nat} {ls : Array Slot} {rest : List Value} {own : String}
theorem nv_b1eq (F : Fx cx p s m args c cc nL own) {b : Bool} {off : Int} {tgt : Nat} (hdg : decode cc pc = .ok (.if_icmp .eq off, 3)) (ht : (pc : Int) + off = (tgt : Int)) (kt : b = true → W p l e R s m args below meth c H locs cells slots Q (F0 m tgt ls rest)) (kf : b = false → W p l e R s m args below meth c H locs cells slots Q (F0 m (pc + 3) ls rest)) : W p l e R s m args below meth c H locs cells slots Q (F0 m pc ls (.int (nI 1) :: .int (b2 b) :: rest)) := lv_icmp_eq F.1.1 F.1.2.1 hdg ht (fun h => kt (by cases b <;> revert h <;> decide)) (fun h => kf (by cases b <;> revert h <;> decide))
theorem nv_b1ne (F : Fx cx p s m args c cc nL own) {b : Bool} {off : Int} {tgt : Nat} (hdg : decode cc pc = .ok (.if_icmp .ne off, 3)) (ht : (pc : Int) + off = (tgt : Int)) (kt : b = false → W p l e R s m args below meth c H locs cells slots Q (F0 m tgt ls rest)) (kf : b = true → W p l e R s m args below meth c H locs cells slots Q (F0 m (pc + 3) ls rest)) : W p l e R s m args below meth c H locs cells slots Q (F0 m pc ls (.int (nI 1) :: .int (b2 b) :: rest)) := lv_icmp_ne F.1.1 F.1.2.1 hdg ht (fun h => kt (by cases b <;> revert h <;> decide)) (fun h => kf (by cases b <;> revert h <;> decide))
end NUM2
theorem bit_and (U j : Nat) : (U / 2 ^ j &&& 1) = if U.testBit j then 1 else 0 := by
  rw [Nat.and_one_is_mod, Nat.testBit_eq_decide_div_mod_eq]
  by_cases h : U / 2 ^ j % 2 = 1
  · simp [h]
  · simp [h]; omega
theorem bit_b2 (U j : Nat) : nI (U / 2 ^ j &&& 1) = b2 (U.testBit j) := by rw [bit_and, b2_n]
def gvI (k : Nat) (x : Int32) : Int32 := if k = 0 then x / nI 2 else if k = 1 then (if x ≤ nI 3 then nI 0 else x - nI 3) else if k = 3 then x - x / nI 2 else nI 0

