theorem mainR_in {cx : CX} {μ μ1 : ME} {S : AS} (h : mainR cx μ S) (ho : ∀ i, i < 136 → μ1 i = μ i) : mainR cx μ1 S := by
  obtain ⟨h0, ⟨ft, t0, t1, t2⟩, h2, ⟨LT, h3⟩, h4, ⟨f1, f2, f3, s0, s1, s2, s3, s4⟩, ⟨g, k0, k1⟩, k2, k3⟩ := h
  refine ⟨(ho 0 (by omega)).trans h0, ⟨ft, (ho _ (by omega)).trans t0, (ho _ (by omega)).trans t1, t2⟩, laneR_in h2 (fun i _ _ => ho i (by omega)), ⟨LT, laneR_in h3 (fun i _ _ => ho i (by omega))⟩, pastR_in h4 (fun i _ _ => ho i (by omega)), ⟨f1, f2, f3, (ho _ (by omega)).trans s0, (ho _ (by omega)).trans s1, (ho _ (by omega)).trans s2, (ho _ (by omega)).trans s3, s4⟩, ⟨g, (ho _ (by omega)).trans k0, k1⟩, fun j hj => ?_, fun j hj q => laneR_in (k3 j hj q) (fun i _ _ => ho i (by omega))⟩
  obtain ⟨L, hL⟩ := k2 j hj
  exact ⟨L, laneR_in hL (fun i _ _ => ho i (by omega))⟩
set_option maxHeartbeats 4000000 in
set_option maxRecDepth 100000 in
theorem whole_start {p : Program} {e : Env} {s : State} {m : MethodId} {below : List Frame} {meth : Method} {c : Code} (l : Launch) (hflags : l.flags = flags0) {b L : Nat} {xs : Nat → Int32} (hL : L ≤ 2560) (C0 : lw_At p s m meth c b L xs) : W p l e room_1 s m #[Value.ref b] below meth c s.heap [] 0 0 (lw_Z below #[Value.ref b] s) (entryFrame m ([Value.ref b] : List Value).toArray 4) := by
  obtain ⟨hx, hb, hr, hml, hown, hts, hX, hbl, hlocks, hgv⟩ := id C0
  have hT : ∀ w ∈ TB, w.before #[Value.ref b] s = true := fun w hw => hts w (List.mem_filter.mp hw).1
  obtain ⟨c0, iS0, hKn0⟩ := u_known (C := RX0) (T := TX0) (N := 9) (n := 9) hT iX0 (hT _ tw_76)
  obtain ⟨c1, iS1, hKn1⟩ := u_known (C := RX1) (T := TX1) (N := 3) (n := 3) hT iX1 (hT _ tw_111)
  obtain ⟨c2, iS2, hKn2⟩ := u_known (C := RX2) (T := TX2) (N := 4) (n := 4) hT iX2 (hT _ tw_130)
  obtain ⟨c3, iS3, hKn3⟩ := u_known (C := RX3) (T := TX3) (N := 2) (n := 2) hT iX3 (hT _ tw_62)
  obtain ⟨c4, iS4, hKn4⟩ := u_known (C := RX4) (T := TX4) (N := 8) (n := 8) hT iX4 (hT _ tw_54)
  obtain ⟨c5, iS5, hKn5⟩ := u_known (C := RX5) (T := TX5) (N := 19) (n := 19) hT iX5 (hT _ tw_624)
  obtain ⟨D, hKc⟩ : ∃ D : va_G, ∀ (k : Nat) (q : vw_C), classes[k]? = some q → u_Kn s q.1 q.2.1 q.2.2 (D.1 k) (D.2 k) := by
    refine ⟨(fun k => if k = 0 then c0 else if k = 1 then c1 else if k = 2 then c2 else if k = 3 then c3 else if k = 4 then c4 else c5, fun k => if k = 0 then iS0 else if k = 1 then iS1 else if k = 2 then iS2 else if k = 3 then iS3 else if k = 4 then iS4 else iS5), ?_⟩
    intro k q hq
    match k, hq with
    | 0, hq => cases hq; exact hKn0
    | 1, hq => cases hq; exact hKn1
    | 2, hq => cases hq; exact hKn2
    | 3, hq => cases hq; exact hKn3
    | 4, hq => cases hq; exact hKn4
    | 5, hq => cases hq; exact hKn5
    | k + 6, hq => simp [classes] at hq
  obtain ⟨t0, kt0, ct0, f0, g0, e0⟩ := Cond.arrayClass_spec (hT _ tw_109)
  obtain ⟨t1, kt1, ct1, f1, g1, e1⟩ := Cond.arrayClass_spec (hT _ tw_74)
  obtain ⟨t2, kt2, ct2, f2, g2, e2⟩ := Cond.arrayClass_spec (hT _ tw_687)
  have hao : (Cond.arrayOver (.object RX0)).before #[Value.ref b] s = true := hts _ (List.mem_of_getElem? (i := 117) (by decide +kernel))
  obtain ⟨ct3, t3, kt3, f3, -, g3, e3, n3⟩ := Cond.arrayOver_spec hao
  obtain ⟨T, eT0, eT1, eT2, eT3⟩ : ∃ T : Nat → ClassId, T 0 = t0 ∧ T 1 = t1 ∧ T 2 = t2 ∧ T 3 = t3 := ⟨fun k => if k = 0 then t0 else if k = 1 then t1 else if k = 2 then t2 else t3, rfl, rfl, rfl, rfl⟩
  subst eT0 eT1 eT2 eT3
  have hK : xK (gx D T s.heap.size 0) s := by
    refine ⟨⟨hKc, fun k q hq => ?_⟩, va_Nw.of rfl (hts (.methodLinkNest RX0 96 yX4_isCarried RX4) (List.mem_of_getElem? (i := 338) (by decide +kernel)))⟩
    match k, hq with
    | 0, hq => cases hq; exact ⟨fun n z => ⟨fun k h => (by cases h), kt0, g0, ct0, e0⟩, f0⟩
    | 1, hq => cases hq; exact ⟨fun n z => ⟨fun k h => (by cases h), kt1, g1, ct1, e1⟩, f1⟩
    | 2, hq => cases hq; exact ⟨fun n z => ⟨fun k h => (by cases h), kt2, g2, ct2, e2⟩, f2⟩
    | 3, hq => cases hq; exact ⟨fun n z => ⟨fun k h => (by cases h), kt3, g3, ct3, e3⟩, kt3, ct3, g3, e3, f3, n3⟩
    | k + 4, hq => simp [xtys] at hq
  have hG : xG s := ⟨va_AO.of hao, va_Nw.of rfl (hts (.methodLinkNest RX4 11 yX3_init RX4) (List.mem_of_getElem? (i := 63) (by decide +kernel))), va_Nw.of rfl (hts (.methodLinkNest RX4 18 yX0_init RX4) (List.mem_of_getElem? (i := 77) (by decide +kernel))), va_Nw.of rfl (hts (.methodLinkNest RX4 35 yX2_init RX4) (List.mem_of_getElem? (i := 131) (by decide +kernel))), va_Nw.of rfl (hts (.methodLinkNest RX1 17 yX0_init RX4) (List.mem_of_getElem? (i := 118) (by decide +kernel)))⟩
  have F : GF D T s.heap.size p s m #[Value.ref b] c code 4 R_law := ⟨⟨hx, hb, hml, hown, hT⟩, hK, hG⟩
  have hl := lv_entry ([.ref b]) (n := 4) (Nat.le_of_ble_eq_true rfl)
  rw [lg_entry_eq]
  generalize (lg_sl ([.ref b]) ++ List.replicate (4 - (lg_sl ([.ref b])).length) Slot.unset).toArray = ls at hl ⊢
  have hl : lv_has ls 4 [(0, .ref b)] := hl
  have hW : GS D T s.heap.size s 0 (fun _ => .inl (T 0, 0, .inl (fun _ => nI 0))) s.heap [] := ⟨fun k q hq => absurd (show k < 0 from (wl_in hq).1) (by omega), va_S.rf, rfl, Nat.le_refl _⟩
  refine gn_new (ci := 4) (fs := [.null, .null, .null, .null, .null, .null, .int (nI 0), .long 0]) F hW rfl iX4 tyX4 tyX4_ok tw_53 tw_54 tw_44 (fun j9 hj9 => by rcases (show j9 = 0 ∨ j9 = 1 ∨ j9 = 2 ∨ j9 = 3 ∨ j9 = 4 ∨ j9 = 5 ∨ j9 = 6 ∨ j9 = 7 by omega) with rfl | rfl | rfl | rfl | rfl | rfl | rfl | rfl <;> rfl) (Nat.le_of_ble_eq_true rfl) (Nat.le_of_ble_eq_true rfl) dL_law_0 (fun H hW => ?_)
  obtain ⟨μ1, e1⟩ : ∃ z9 : ME, z9 = va_up (fun _ => .inl (T 0, 0, .inl (fun _ => nI 0))) 0 (.inr (4, [.null, .null, .null, .null, .null, .null, .int (nI 0), .long 0])) := ⟨_, rfl⟩
  have hW : GS D T s.heap.size s (0 + 1) μ1 H [] := by rw [e1]; exact hW
  refine lv_dup hx hb dL_law_3 rfl ?_
  refine gn_call F hW (g_X4_init l (by rw [e1, va_up_self])) tw_57 tw_55 tw_44 tw_56 rfl (by decide +kernel) ⟨(Nat.le_of_ble_eq_true rfl), (Nat.le_of_ble_eq_true rfl)⟩ hl (Nat.le_of_ble_eq_true rfl) dL_law_4 ⟨(Nat.le_of_ble_eq_true rfl), (Nat.le_of_ble_eq_true rfl)⟩ (fun μ2 H locs q_μ2 hW => ?_)
  refine lv_astore_n (lv' := [(1, .ref (s.heap.size + 0)), (0, .ref b)]) hx hb dL_law_7 rfl hl (by decide) rfl (fun ls hl => ?_)
  refine gn_new (ci := 5) (fs := [.int (nI 0), .null, .null, .null, .int (nI 0), .null, .int (nI 0), .null, .null, .int (nI 0), .int (nI 0), .null, .int (nI 0), .null, .null, .null, .long 0, .null, .null]) F hW rfl iX5 tyX5 tyX5_ok tw_623 tw_624 tw_49 (fun j9 hj9 => by rcases (show j9 = 0 ∨ j9 = 1 ∨ j9 = 2 ∨ j9 = 3 ∨ j9 = 4 ∨ j9 = 5 ∨ j9 = 6 ∨ j9 = 7 ∨ j9 = 8 ∨ j9 = 9 ∨ j9 = 10 ∨ j9 = 11 ∨ j9 = 12 ∨ j9 = 13 ∨ j9 = 14 ∨ j9 = 15 ∨ j9 = 16 ∨ j9 = 17 ∨ j9 = 18 by omega) with rfl | rfl | rfl | rfl | rfl | rfl | rfl | rfl | rfl | rfl | rfl | rfl | rfl | rfl | rfl | rfl | rfl | rfl | rfl <;> rfl) (Nat.le_of_ble_eq_true rfl) (Nat.le_of_ble_eq_true rfl) dL_law_8 (fun H hW => ?_)
  obtain ⟨μ3, e3⟩ : ∃ z9 : ME, z9 = va_up μ2 136 (.inr (5, [.int (nI 0), .null, .null, .null, .int (nI 0), .null, .int (nI 0), .null, .null, .int (nI 0), .int (nI 0), .null, .int (nI 0), .null, .null, .null, .long 0, .null, .null])) := ⟨_, rfl⟩
  have hW : GS D T s.heap.size s (136 + 1) μ3 H locs := by rw [e3]; exact hW
  refine lv_dup hx hb dL_law_11 rfl ?_
  refine gn_call F hW (g_X5_init l 136 (by rw [e3, va_up_self])) tw_627 tw_625 tw_49 tw_626 rfl (by decide +kernel) ⟨(Nat.le_of_ble_eq_true rfl), (Nat.le_of_ble_eq_true rfl)⟩ hl (Nat.le_of_ble_eq_true rfl) dL_law_12 ⟨(Nat.le_of_ble_eq_true rfl), (Nat.le_of_ble_eq_true rfl)⟩ (fun μ4 H locs q_μ4 hW => ?_)
  refine lv_astore_n (lv' := [(2, .ref (s.heap.size + 136)), (1, .ref (s.heap.size + 0)), (0, .ref b)]) hx hb dL_law_15 rfl hl (by decide) rfl (fun ls hl => ?_)
  refine lv_iconst (v := nI 0) hx hb dL_law_16 (by decide) ?_
  refine lv_istore_n (lv' := [(3, .int (nI 0)), (2, .ref (s.heap.size + 136)), (1, .ref (s.heap.size + 0)), (0, .ref b)]) hx hb dL_law_17 rfl hl (by decide) rfl (fun ls hl => ?_)
  have hoff : ∀ i, i < 136 → μ4 i = μ2 i := fun i hi => by rw [q_μ4.1 i hi, e3, va_up_ne _ _ (by omega)]
  have hM : mainR (gx D T s.heap.size 149) μ4 S0 := mainR_in q_μ2 hoff
  refine va_forget (fun q hq => hW.2.1.2.2 q hq) (W.widen (k := 149) (n := 1628) (Nat.le_of_ble_eq_true rfl) (Nat.le_of_ble_eq_true rfl) ?_)
  have hI : xI (gx D T s.heap.size 149) := fun i j _ _ q => by have q : s.heap.size + i = s.heap.size + j := q; omega
  exact law_loop (D := D) (T := T) hL C0 ⟨⟨hx, hb, hml, hown, hT⟩, hK, hI⟩ L 0 S0 μ4 H [] ls (by omega) (Nat.zero_le _) hM (modX0 q_μ4.2) (aok_S0 _) mok_S0 ⟨hW.1, hW.2.1.1, fun q h1 h2 => hW.2.1.2.1 q h1 (fun z => absurd (show s.heap.size ≤ q from z) (by omega)), fun q hq => absurd hq (by simp)⟩ (lv_sub hl [3, 2, 1, 0] rfl)
