/-! fewer stones: nothing new falls -/
def le9 (M L : LN) : Prop := Ln M = Ln L ∧ LU M = LU L ∧ ∀ i, Lk M i = Lk L i ∧ Lg M i = Lg L i ∧ Ld M i = Ld L i ∧ Ls M i ≤ Ls L i ∧ Ll M i ≤ Ll L i
theorem gv_mono (k : Nat) {a b : Nat} (h : a ≤ b) : gv k a ≤ gv k b := by
  unfold gv
  split
  · omega
  · split
    · omega
    · split <;> omega
theorem gr_mono (k : Nat) {a b : Nat} (h : a ≤ b) : a - gv k a ≤ b - gv k b := by
  unfold gv
  split
  · omega
  · split
    · omega
    · split <;> omega
theorem le9_lst {M L : LN} (h : le9 M L) (i : Nat) : lst M i = lst L i := by
  unfold lst
  rw [h.1, h.2.1]
theorem le9_lgi {M L : LN} (h : le9 M L) (i : Nat) : lgi M i ≤ lgi L i := by
  unfold lgi
  rw [le9_lst h, (h.2.2 i).1]
  split
  · exact gv_mono _ (h.2.2 i).2.2.2.2
  · exact Nat.le_refl _
theorem le9_lgr {M L : LN} (h : le9 M L) (i : Nat) : lgr M i ≤ lgr L i := by
  unfold lgr
  rw [le9_lst h, (h.2.2 i).1]
  split
  · exact gr_mono _ (h.2.2 i).2.2.2.2
  · exact Nat.le_refl _
theorem le9_new {M L : LN} (h : le9 M L) (i : Nat) : lnew M i ≤ lnew L i := by
  unfold lnew lfrL lfrR
  have a := (h.2.2 i).2.2.2.1
  have b := le9_lgi h (i - 1)
  have c := le9_lgi h (i + 1)
  rw [(h.2.2 (i - 1)).2.2.1, (h.2.2 (i + 1)).2.2.1]
  split <;> split <;> omega
theorem le9_step {M L : LN} (h : le9 M L) : le9 (lstep M) (lstep L) := by
  refine ⟨h.1, h.2.1, fun i => ⟨(h.2.2 i).1, (h.2.2 i).2.1, (h.2.2 i).2.2.1, (h.2.2 i).2.2.2.1, ?_⟩⟩
  show (if lst M i then lnew M i else 0) ≤ (if lst L i then lnew L i else 0)
  rw [le9_lst h]
  split
  · exact le9_new h i
  · exact Nat.le_refl _
theorem le9_sst {M L : LN} (h : le9 M L) (i : Nat) : lsst M i = lsst L i := by
  unfold lsst
  rw [(h.2.2 i).2.2.1, le9_lst h, le9_lst h]
theorem le9_fall {M L : LN} (h : le9 M L) (i : Nat) (hf : lfall L i = false) : lfall M i = false := by
  rw [lfall_def] at hf ⊢
  have hl : loose M i = loose L i := by
    unfold loose
    rw [(h.2.2 i).1, (h.2.2 i).2.2.1, le9_sst h]
  rw [le9_lst h, hl, (h.2.2 i).2.1]
  by_cases q : lst L i = true
  · rw [q, Bool.true_and, Bool.or_eq_false_iff] at hf
    have := of_decide_eq_false hf.2
    have := le9_lgr h i
    rw [hf.1, decide_eq_false (by omega)]
    simp
  · rw [Bool.not_eq_true] at q
    rw [q]
    rfl
theorem hF_0 {L : LN} : hF L = 0 ↔ ∀ i, i < Ln L → lfall (lstep L) i = false := by
  constructor
  · intro h i hi
    have : (hF L).testBit i = false := by rw [h, Nat.zero_testBit]
    unfold hF at this
    rw [testBit_bitsOf, decide_eq_true hi, Bool.true_and] at this
    exact this
  · intro h
    apply Nat.eq_of_testBit_eq
    intro i
    unfold hF
    rw [testBit_bitsOf, Nat.zero_testBit]
    by_cases hi : i < Ln L
    · rw [h i hi, Bool.and_false]
    · rw [decide_eq_false hi]
      rfl
theorem le9_hour {M L : LN} (h : le9 M L) (h0 : hF L = 0) : hF M = 0 ∧ le9 (hour M) (hour L) := by
  have hM : hF M = 0 := hF_0.mpr (fun i hi => le9_fall (le9_step h) i (hF_0.mp h0 i (by rw [← h.1]; exact hi)))
  refine ⟨hM, h.1, ?_, fun i => ⟨(h.2.2 i).1, (h.2.2 i).2.1, (h.2.2 i).2.2.1, (h.2.2 i).2.2.2.1, ?_⟩⟩
  · show bitsOf (fun t => lst M t && !(hF M).testBit t) (Ln M) = bitsOf (fun t => lst L t && !(hF L).testBit t) (Ln L)
    rw [hM, h0, h.1]
    congr 1
    funext t
    rw [le9_lst h]
  · show (if (hF M).testBit i then 0 else Ll (lstep M) i) ≤ (if (hF L).testBit i then 0 else Ll (lstep L) i)
    rw [hM, h0, Nat.zero_testBit, if_neg (by decide), if_neg (by decide)]
    exact ((le9_step h).2.2 i).2.2.2.2
theorem le9_calm {M L : LN} (h : le9 M L) (n : Nat) (hc : calm n L = true) : calm n M = true ∧ le9 (hrs n M) (hrs n L) := by
  induction n with
  | zero => exact ⟨rfl, h⟩
  | succ n ih =>
    have hc : (calm n L && decide (hF (hrs n L) = 0)) = true := hc
    rw [Bool.and_eq_true, decide_eq_true_eq] at hc
    have a := ih hc.1
    have b := le9_hour a.2 hc.2
    refine ⟨?_, b.2⟩
    show (calm n M && decide (hF (hrs n M) = 0)) = true
    rw [a.1, decide_eq_true b.1]
    rfl
theorem subS_eq {L : LN} {j v : Nat} (h : canS L j v = true) : subS L j v = sets L (va_up (Ls L) j (Ls L j - v)) := by
  unfold subS
  rw [if_pos h]
theorem clm_mono {L : LN} {one o v w V W : Nat} (hne : ¬ one = o) (h1 : one < Ln L) (h2 : o < Ln L) (hv : 1 ≤ v) (hw : 1 ≤ w) (hvV : v ≤ V) (hwW : w ≤ W) (hV9 : V ≤ 9) (hW9 : W ≤ 9) (hV : V ≤ Ls L one) (hWo : W ≤ Ls L o) (h : clm L one v o w = true) : clm L one V o W = true := by
  unfold clm at h ⊢
  have a1 : canS L one v = true := decide_eq_true ⟨h1, ⟨hv, by omega⟩, by omega⟩
  have a2 : canS L one V = true := decide_eq_true ⟨h1, ⟨by omega, hV9⟩, hV⟩
  have e1 : Ls (subS L one v) o = Ls L o := Ls_sub (fun z => absurd z.symm hne)
  have e2 : Ls (subS L one V) o = Ls L o := Ls_sub (fun z => absurd z.symm hne)
  have b1 : canS (subS L one v) o w = true := decide_eq_true ⟨by rw [subS_n]; exact h2, ⟨hw, by omega⟩, by rw [e1]; omega⟩
  have b2 : canS (subS L one V) o W = true := decide_eq_true ⟨by rw [subS_n]; exact h2, ⟨by omega, hW9⟩, by rw [e2]; exact hWo⟩
  refine (le9_calm ?_ 6 h).1
  rw [subS_eq b1, subS_eq b2, e1, e2, subS_eq a1, subS_eq a2]
  refine ⟨rfl, rfl, fun i => ⟨rfl, rfl, rfl, ?_, Nat.le_refl _⟩⟩
  show va_up (va_up (Ls L) one (Ls L one - V)) o (Ls L o - W) i ≤ va_up (va_up (Ls L) one (Ls L one - v)) o (Ls L o - w) i
  unfold va_up
  split
  · omega
  · split <;> omega
/-! the fewest -/
def hvP (L : LN) (x one o v : Nat) : Prop := (if one = o then x = v else v + 1 ≤ x ∧ x ≤ v + 9) ∧ safB L one v o (x - v) = true
def hitP (L : LN) (one o x : Nat) : Prop := ∃ v, 1 ≤ v ∧ v ≤ 9 ∧ hvP L x one o v
def ph (L : LN) (t x : Nat) : Prop := t / 6 < Ln L ∧ t % 6 < Ln L ∧ t / 6 ≤ t % 6 ∧ hitP L (t / 6) (t % 6) x
def isMin (H : Nat → Prop) (lim x : Nat) : Prop := x ≤ lim ∧ (x < lim → H x) ∧ ∀ z, z < x → ¬ H z
theorem isMin_ext {H H2 : Nat → Prop} {lim x : Nat} (h : isMin H lim x) (h1 : ∀ z, H z → H2 z) (h2 : ∀ z, z < x → H2 z → H z) : isMin H2 lim x := ⟨h.1, fun q => h1 _ (h.2.1 q), fun z hz q => h.2.2 z hz (h2 z hz q)⟩
theorem isMin_lim {H : Nat → Prop} {lim : Nat} (h : ∀ z, z < lim → ¬ H z) : isMin H lim lim := ⟨Nat.le_refl _, fun q => absurd q (Nat.lt_irrefl _), h⟩
theorem hit1 {L : LN} {h x : Nat} : hitP L h h x ↔ 1 ≤ x ∧ x ≤ mosT L h ∧ clm L h x h 0 = true := by
  unfold hitP hvP safB mosT
  constructor
  · rintro ⟨v, h1, h9, e, q⟩
    rw [if_pos rfl] at e
    subst e
    rw [Nat.sub_self, Bool.and_eq_true, decide_eq_true_eq] at q
    exact ⟨h1, by omega, q.2⟩
  · intro q
    refine ⟨x, q.1, by omega, by rw [if_pos rfl], ?_⟩
    rw [Nat.sub_self, Bool.and_eq_true, decide_eq_true_eq]
    exact ⟨⟨by omega, Nat.zero_le _⟩, q.2.2⟩
theorem f1_min (L : LN) (h lim : Nat) : ∀ d v, 1 ≤ v → 10 ≤ v + d → (∀ z, z < v → ¬ hitP L h h z) → isMin (hitP L h h) lim (f1F L h lim d v) := by
  intro d
  induction d with
  | zero =>
    intro v h1 h10 hz
    refine isMin_lim (fun z _ q => ?_)
    rcases Nat.lt_or_ge z v with a | a
    · exact hz z a q
    · have := (hit1.mp q).2.1
      unfold mosT at this
      omega
  | succ d ih =>
    intro v h1 h10 hz
    show isMin _ lim (if v ≤ mosT L h ∧ v < lim then (if clm L h v h 0 then v else f1F L h lim d (v + 1)) else lim)
    split
    · rename_i c
      split
      · rename_i e
        exact ⟨by omega, fun _ => hit1.mpr ⟨h1, c.1, e⟩, hz⟩
      · rename_i e
        refine ih (v + 1) (by omega) (by omega) (fun z hzv q => ?_)
        rcases Nat.lt_or_ge z v with a | a
        · exact hz z a q
        · rw [show z = v by omega] at q
          exact e (hit1.mp q).2.2
    · rename_i c
      refine isMin_lim (fun z hzl q => ?_)
      rcases Nat.lt_or_ge z v with a | a
      · exact hz z a q
      · have := (hit1.mp q).2.1
        omega
def kP (L : LN) (one o v0 w0 x : Nat) : Prop := ∃ v w, 1 ≤ v ∧ v ≤ mosT L one ∧ 1 ≤ w ∧ w ≤ mosT L o ∧ v + w = x ∧ clm L one v o w = true ∧ (v < v0 ∨ (v = v0 ∧ w < w0))
theorem hit2 {L : LN} {one o x : Nat} (hne : ¬ one = o) : hitP L one o x ↔ kP L one o 10 1 x := by
  unfold hitP hvP safB kP mosT
  constructor
  · rintro ⟨v, h1, h9, e, q⟩
    rw [if_neg hne] at e
    rw [Bool.and_eq_true, decide_eq_true_eq] at q
    exact ⟨v, x - v, h1, by omega, by omega, by omega, by omega, q.2, by omega⟩
  · rintro ⟨v, w, h1, h2, h3, h4, e, q, -⟩
    refine ⟨v, h1, by omega, by rw [if_neg hne]; omega, ?_⟩
    rw [show x - v = w by omega, Bool.and_eq_true, decide_eq_true_eq]
    exact ⟨⟨by omega, by omega⟩, q⟩
theorem f2I_min (L : LN) (one o v lim : Nat) (hv1 : 1 ≤ v) (hvm : v ≤ mosT L one) : ∀ d w fw, 1 ≤ w → 10 ≤ w + d → isMin (kP L one o v w) lim fw → isMin (kP L one o (v + 1) 1) lim (f2I L one o v d w fw) := by
  intro d
  induction d with
  | zero =>
    intro w fw h1 h10 h
    refine isMin_ext h ?_ ?_
    · rintro z ⟨a, b, q1, q2, q3, q4, q5, q6, q7⟩
      exact ⟨a, b, q1, q2, q3, q4, q5, q6, by omega⟩
    · rintro z hz ⟨a, b, q1, q2, q3, q4, q5, q6, q7⟩
      have := mosT_le L o
      exact ⟨a, b, q1, q2, q3, q4, q5, q6, by omega⟩
  | succ d ih =>
    intro w fw h1 h10 h
    show isMin _ lim (if w ≤ mosT L o ∧ v + w < fw then f2I L one o v d (w + 1) (if clm L one v o w then v + w else fw) else fw)
    split
    · rename_i c
      refine ih (w + 1) _ (by omega) (by omega) ?_
      split
      · rename_i e
        refine ⟨by have := h.1; omega, fun _ => ⟨v, w, hv1, hvm, h1, c.1, rfl, e, by omega⟩, ?_⟩
        rintro z hz ⟨a, b, q1, q2, q3, q4, q5, q6, q7⟩
        exact h.2.2 z (by omega) ⟨a, b, q1, q2, q3, q4, q5, q6, by omega⟩
      · rename_i e
        refine isMin_ext h ?_ ?_
        · rintro z ⟨a, b, q1, q2, q3, q4, q5, q6, q7⟩
          exact ⟨a, b, q1, q2, q3, q4, q5, q6, by omega⟩
        · rintro z hz ⟨a, b, q1, q2, q3, q4, q5, q6, q7⟩
          refine ⟨a, b, q1, q2, q3, q4, q5, q6, ?_⟩
          by_cases e2 : a = v ∧ b = w
          · exact absurd (by rw [← e2.1, ← e2.2]; exact q6) e
          · omega
    · rename_i c
      refine isMin_ext h ?_ ?_
      · rintro z ⟨a, b, q1, q2, q3, q4, q5, q6, q7⟩
        exact ⟨a, b, q1, q2, q3, q4, q5, q6, by omega⟩
      · rintro z hz ⟨a, b, q1, q2, q3, q4, q5, q6, q7⟩
        exact ⟨a, b, q1, q2, q3, q4, q5, q6, by omega⟩
theorem f2O_min (L : LN) (one o lim : Nat) : ∀ d v fw, 1 ≤ v → 10 ≤ v + d → isMin (kP L one o v 1) lim fw → isMin (kP L one o 10 1) lim (f2O L one o d v fw) := by
  intro d
  have m9 := mosT_le L one
  induction d with
  | zero =>
    intro v fw h1 h10 h
    refine isMin_ext h ?_ ?_
    · rintro z ⟨a, b, q1, q2, q3, q4, q5, q6, q7⟩
      exact ⟨a, b, q1, q2, q3, q4, q5, q6, by omega⟩
    · rintro z hz ⟨a, b, q1, q2, q3, q4, q5, q6, q7⟩
      exact ⟨a, b, q1, q2, q3, q4, q5, q6, by omega⟩
  | succ d ih =>
    intro v fw h1 h10 h
    show isMin _ lim (if v ≤ mosT L one then f2O L one o d (v + 1) (f2I L one o v 9 1 fw) else fw)
    split
    · rename_i c
      exact ih (v + 1) _ (by omega) (by omega) (f2I_min L one o v lim h1 c 9 1 fw (by omega) (by omega) h)
    · rename_i c
      refine isMin_ext h ?_ ?_
      · rintro z ⟨a, b, q1, q2, q3, q4, q5, q6, q7⟩
        exact ⟨a, b, q1, q2, q3, q4, q5, q6, by omega⟩
      · rintro z hz ⟨a, b, q1, q2, q3, q4, q5, q6, q7⟩
        exact ⟨a, b, q1, q2, q3, q4, q5, q6, by omega⟩
theorem f2_min (L : LN) (one o lim : Nat) (hne : ¬ one = o) (h1 : one < Ln L) (h2 : o < Ln L) : isMin (hitP L one o) lim (f2R L one o lim) := by
  refine isMin_ext (H := kP L one o 10 1) ?_ (fun z q => (hit2 hne).mpr q) (fun z _ q => (hit2 hne).mp q)
  unfold f2R
  split
  · refine f2O_min L one o lim 9 1 lim (by omega) (by omega) (isMin_lim ?_)
    rintro z hz ⟨a, b, q1, q2, q3, q4, q5, q6, q7⟩
    omega
  · rename_i e
    refine isMin_lim ?_
    rintro z hz ⟨a, b, q1, q2, q3, q4, q5, q6, q7⟩
    exact e (clm_mono hne h1 h2 q1 q3 q2 q4 (mosT_le L one) (mosT_le L o) (Nat.min_le_right _ _) (Nat.min_le_right _ _) q6)
def skS (L : LN) (t : Nat) (a : Nat × Int32) : Prop := isMin (fun z => ∃ q, q < t ∧ ph L q z) 19 a.1 ∧ (a.1 < 19 → ∃ q, q < t ∧ ph L q a.1 ∧ (∀ u, u < q → ¬ ph L u a.1) ∧ a.2 = nI (10 * (q / 6) + q % 6)) ∧ (a.1 = 19 → a.2 = -9)
theorem sk_skip {L : LN} {t u : Nat} {a : Nat × Int32} (h : skS L t a) (htu : t ≤ u) (hn : ∀ q, t ≤ q → q < u → ∀ z, ¬ ph L q z) : skS L u a := by
  refine ⟨isMin_ext h.1 ?_ ?_, fun q => ?_, h.2.2⟩
  · rintro z ⟨q, h1, h2⟩
    exact ⟨q, by omega, h2⟩
  · rintro z hz ⟨q, h1, h2⟩
    rcases Nat.lt_or_ge q t with c | c
    · exact ⟨q, c, h2⟩
    · exact absurd h2 (hn q c h1 z)
  · obtain ⟨q, h1, h2, h3⟩ := h.2.1 q
    exact ⟨q, by omega, h2, h3⟩
theorem sk_step {L : LN} {one o f : Nat} {a : Nat × Int32} (hn6 : Ln L ≤ 6) (h : skS L (6 * one + o) a) (h1 : one < Ln L) (h2 : o < Ln L) (h3 : one ≤ o) (hf : isMin (hitP L one o) a.1 f) : skS L (6 * one + o + 1) (if f < a.1 then (f, nI (10 * one + o)) else a) := by
  have e1 : (6 * one + o) / 6 = one := by omega
  have e2 : (6 * one + o) % 6 = o := by omega
  have ep : ∀ z, ph L (6 * one + o) z ↔ hitP L one o z := by
    intro z
    unfold ph
    rw [e1, e2]
    exact ⟨fun q => q.2.2.2, fun q => ⟨h1, h2, h3, q⟩⟩
  by_cases c : f < a.1
  · rw [if_pos c]
    refine ⟨⟨by have := h.1.1; show f ≤ 19; omega, fun _ => ⟨_, Nat.lt_succ_self _, (ep f).mpr (hf.2.1 c)⟩, ?_⟩, fun _ => ⟨6 * one + o, Nat.lt_succ_self _, (ep f).mpr (hf.2.1 c), ?_, by rw [e1, e2]⟩, fun q => ?_⟩
    · rintro z hz ⟨q, q1, q2⟩
      have hz : z < f := hz
      by_cases e : q = 6 * one + o
      · rw [e] at q2
        exact hf.2.2 z hz ((ep z).mp q2)
      · exact h.1.2.2 z (by omega) ⟨q, by omega, q2⟩
    · intro u hu q
      exact h.1.2.2 f c ⟨u, hu, q⟩
    · have q : f = 19 := q
      have := h.1.1
      omega
  · rw [if_neg c]
    have ef : f = a.1 := by have := hf.1; omega
    refine ⟨isMin_ext h.1 ?_ ?_, fun q => ?_, h.2.2⟩
    · rintro z ⟨q, q1, q2⟩
      exact ⟨q, by omega, q2⟩
    · rintro z hz ⟨q, q1, q2⟩
      by_cases e : q = 6 * one + o
      · rw [e] at q2
        exact absurd ((ep z).mp q2) (hf.2.2 z (by omega))
      · exact ⟨q, by omega, q2⟩
    · obtain ⟨q, q1, q2⟩ := h.2.1 q
      exact ⟨q, by omega, q2⟩
theorem skI_S {L : LN} {one : Nat} (hn6 : Ln L ≤ 6) (h1 : one < Ln L) : ∀ d o a, one ≤ o → o + d = Ln L → skS L (6 * one + o) a → skS L (6 * one + Ln L) (skI L one d o a) := by
  intro d
  induction d with
  | zero => intro o a h2 h3 h; rw [show Ln L = o by omega]; exact h
  | succ d ih =>
    intro o a h2 h3 h
    refine ih (o + 1) _ (by omega) (by omega) (sk_step hn6 h h1 (by omega) h2 ?_)
    by_cases e : one = o
    · rw [if_pos e, ← e]
      exact f1_min L one a.1 9 1 (by omega) (by omega) (fun z hz q => by have := (hit1.mp q).1; omega)
    · rw [if_neg e]
      exact f2_min L one o a.1 e h1 (by omega)
theorem skO_S {L : LN} (hn6 : Ln L ≤ 6) : ∀ d one a, one + d = Ln L → skS L (6 * one) a → skS L (6 * Ln L) (skO L d one a) := by
  intro d
  induction d with
  | zero => intro one a h2 h; rw [show Ln L = one by omega]; exact h
  | succ d ih =>
    intro one a h2 h
    have a1 : skS L (6 * one + one) a := sk_skip h (by omega) (fun q q1 q2 z q3 => by have := q3.2.2.1; omega)
    have a2 := skI_S hn6 (show one < Ln L by omega) (Ln L - one) one a (by omega) (by omega) a1
    exact ih (one + 1) _ (by omega) (sk_skip a2 (by omega) (fun q q1 q2 z q3 => by have := q3.2.1; omega))
theorem sk_all {L : LN} (hn6 : Ln L ≤ 6) : skS L 36 (skO L (Ln L) 0 (19, -9)) := by
  have a0 : skS L (6 * 0) (19, -9) := by
    refine ⟨isMin_lim ?_, fun q => absurd q (by decide), fun _ => rfl⟩
    rintro z hz ⟨q, q1, q2⟩
    omega
  exact sk_skip (skO_S hn6 (Ln L) 0 _ (by omega) a0) (by omega) (fun q q1 q2 z q3 => by have := q3.1; omega)
theorem sk_none {L : LN} {a : Nat × Int32} (h : skS L 36 a) (hn : ∀ z, z < 19 → ∀ t, t < 36 → ¬ ph L t z) : a.2 = -9 := by
  refine h.2.2 ?_
  rcases Nat.lt_or_ge a.1 19 with c | c
  · obtain ⟨q, q1, q2⟩ := h.1.2.1 c
    exact absurd q2 (hn _ c q q1)
  · have := h.1.1
    omega
theorem sk_hit {L : LN} {a : Nat × Int32} {i j : Nat} (h : skS L 36 a) (hi : i < 19) (hj : j < 36) (hp : ph L j i) (h1 : ∀ z, z < i → ∀ t, t < 36 → ¬ ph L t z) (h2 : ∀ t, t < j → ¬ ph L t i) : a.1 = i ∧ a.2 = nI (10 * (j / 6) + j % 6) := by
  have e : a.1 = i := by
    rcases Nat.lt_trichotomy a.1 i with c | c | c
    · obtain ⟨q, q1, q2⟩ := h.1.2.1 (by omega)
      exact absurd q2 (h1 _ c q q1)
    · exact c
    · exact absurd ⟨j, hj, hp⟩ (h.1.2.2 i c)
  refine ⟨e, ?_⟩
  obtain ⟨q, q1, q2, q3, q4⟩ := h.2.1 (by omega)
  rw [e] at q2 q3
  have : q = j := by
    rcases Nat.lt_trichotomy q j with c | c | c
    · exact absurd q2 (h2 q c)
    · exact c
    · exact absurd hp (q3 j c)
  rw [q4, this]
theorem car_sub {i v : Nat} (hi : i < 1000) (hv : v < 1000) : carI (nI i - nI v) = decide (v + 1 ≤ i ∧ i ≤ v + 9) := by
  unfold carI
  rw [pk_sub_toInt (by omega) (by omega)]
  apply decide_eq_decide.mpr
  omega
theorem sub_0 {i v : Nat} (hi : i < 1000) (hv : v < 1000) : nI i - nI v = 0 ↔ i = v := by
  constructor
  · intro h
    have := congrArg Int32.toInt h
    rw [pk_sub_toInt (by omega) (by omega)] at this
    have z : (0 : Int32).toInt = 0 := rfl
    omega
  · intro h
    rw [h, pk_sub (Nat.le_refl _), Nat.sub_self]
    rfl

set_option maxHeartbeats 4000000 in
set_option maxRecDepth 100000 in
theorem x_sacks {cx : CX} (hI : xI cx) (l : Launch) {μ : ME} {S : AS} {B : Nat} {Tr : (Nat → Int32) → Prop} (hN : 149 ≤ xN cx) (hX : modX cx μ S Tr) (hA : aok S B) (hMo : mok S) (hB : B < 800000) (w0 : Int32) : MT cx l yX5_sacks cX5_sacks 9 (some .int) 6 142 [.ref (xa cx 136), .int w0] μ (Ei cx (r_sacks S w0) (fun μ1 => modX cx μ1 S (fun _ => True) ∧ off 136 13 μ μ1)) := by
  refine mt_of hI (by decide) (Nat.le_of_ble_eq_true rfl) ?_
  intro p e s m below meth c ls F hr hlk hW hl
  have hx := F.1.1
  have hb := F.1.2.1
  have hts := F.1.2.2.2.2
  obtain ⟨rh, nx, f1, fn, frd, ft, fo, fa, frw, fh, fu, fb, fz, fkp, g136, g137, g138, g139, g140, g141, g142, g143, g144, g145, g146, g147, g148, hg, hv, ht, hnx, hrw, hse, hkp, hTr⟩ := id hX
  have hk := hA.2.1
  have hn6 := hk.1
  have hk4 := hk.2.2.2.1
  have hU := lok_U hk
  have hV0 := modX_V0 hX
  have hl : lv_has ls 9 [(0, .ref (xa cx 136)), (1, .int w0)] := hl
  refine lv_iload_n hx hb dX5_sacks_0 rfl (lv_at hl 1 rfl) ?_
  refine lv_i2l hx hb dX5_sacks_1 rfl ?_
  refine lv_lconst (v := lN 0) hx hb dX5_sacks_2 (by decide) ?_
  refine lv_lconst (v := lN 1) hx hb dX5_sacks_3 (by decide) ?_
  refine cl_ip (cl_runS (rest := []) F hW e_X5_49 (m_in hI l ((w0.toInt64)) ((lN 0)) ((lN 1))) ⟨Nat.le_of_ble_eq_true rfl, Nat.le_of_ble_eq_true rfl⟩ rfl rfl hl (Nat.le_of_ble_eq_true rfl) dX5_sacks_4 ⟨Nat.zero_le _, Nat.zero_le _⟩) hW (fun H locs hW => ?_)
  refine nv_top (y := ((b2 (halI w0)))) (congrArg b2 (inL_half _)) ?_
  refine nv_bne (tgt := 13) F dX5_sacks_7 (by decide) (fun c_1 => ?_) (fun c_1 => ?_)
  · skip
    have hwh := c_1
    refine lv_aload_n hx hb dX5_sacks_13 rfl (lv_at hl 0 rfl) ?_
    refine cl_v (cl_run (rest := []) F hW e_X5_134 (m_layTrial hI l hN hX hA hMo hB) ⟨Nat.le_of_ble_eq_true rfl, Nat.le_of_ble_eq_true rfl⟩ (by omega) g136 rfl rfl rfl hl (Nat.le_of_ble_eq_true rfl) dX5_sacks_14 ⟨Nat.zero_le _, Nat.zero_le _⟩) hW (fun μ2 H locs q_2 hW => ?_)
    obtain ⟨hX_2, ho_2⟩ := q_2
    obtain ⟨rh_2, nx_2, f1_2, fn_2, frd_2, ft_2, fo_2, fa_2, frw_2, fh_2, fu_2, fb_2, fz_2, fkp_2, g136_2, g137_2, g138_2, g139_2, g140_2, g141_2, g142_2, g143_2, g144_2, g145_2, g146_2, g147_2, g148_2, hg_2, hv_2, ht_2, hnx_2, hrw_2, hse_2, hkp_2, hTr_2⟩ := id hX_2
    have hs_2 : shp (AL S) (AL S) := shp_rf
    have hkT_2 := hk
    have hn_2 : Ln (AL S) = Ln (AL S) := hs_2.1
    have hV0_2 := modX_V0 hX_2
    have hV1_2 := modX_V1 hX_2 hs_2
    refine lv_aload_n hx hb dX5_sacks_17 rfl (lv_at hl 0 rfl) ?_
    refine lv_bipush (v := nI 6) hx hb dX5_sacks_18 (by decide) ?_
    refine cl_ie (cl_run (rest := []) F hW e_X5_137 (m_goOn hI l hN hX_2 hA hMo hB hs_2 hkT_2 (by omega) 6 (by omega)) ⟨Nat.le_of_ble_eq_true rfl, Nat.le_of_ble_eq_true rfl⟩ (by omega) g136_2 rfl rfl rfl hl (Nat.le_of_ble_eq_true rfl) dX5_sacks_20 ⟨Nat.zero_le _, Nat.zero_le _⟩) hW (fun μ3 H locs q_3 hW => ?_)
    obtain ⟨hX_3, ho_3⟩ := q_3
    obtain ⟨rh_3, nx_3, f1_3, fn_3, frd_3, ft_3, fo_3, fa_3, frw_3, fh_3, fu_3, fb_3, fz_3, fkp_3, g136_3, g137_3, g138_3, g139_3, g140_3, g141_3, g142_3, g143_3, g144_3, g145_3, g146_3, g147_3, g148_3, hg_3, hv_3, ht_3, hnx_3, hrw_3, hse_3, hkp_3, hTr_3⟩ := id hX_3
    have hs_3 : shp (hrs 6 (AL S)) (AL S) := shp_tr (shp_hrs 6) hs_2
    have hkT_3 := lok_hrs hkT_2 6
    have hn_3 : Ln (hrs 6 (AL S)) = Ln (AL S) := hs_3.1
    have hV0_3 := modX_V0 hX_3
    have hV1_3 := modX_V1 hX_3 hs_3
    refine nv_zne (tgt := 28) F (by have := orF_lt (L := AL S) hn6 6; omega) dX5_sacks_23 (by decide) (fun c_4 => ?_) (fun c_4 => ?_)
    · skip
      have hnc : ¬ calm 6 (AL S) = true := fun z => absurd ((orF_calm _ 6).mpr z) c_4
      refine lv_iconst (v := nI 1) hx hb dX5_sacks_28 (by decide) ?_
      refine lv_istore_n (lv' := [(2, .int (nI 1)), (0, .ref (xa cx 136)), (1, .int w0)]) hx hb dX5_sacks_29 rfl hl (by decide) rfl (fun ls hl => ?_)
      have LA : ∀ (d i : Nat)  (μLA : ME) (H : Heap) (locs : List Loc) (ls : Array Slot), i + d = 19 → (modX cx μLA S (fun _ => True)) → (off 136 13 μ μLA) → (1 ≤ i) → (∀ z, z < i → ∀ t, t < 36 → ¬ ph (AL S) t z) → St cx s μLA H locs → lv_has ls 9 [(0, .ref (xa cx 136)), (1, .int w0), (2, .int (nI i))] → W p l e { frames := 6, cells := 0, slots := 0, locals := 142 } s m [.ref (xa cx 136), .int w0].toArray below meth c H locs 0 0 (MQ below (Ei cx (r_sacks S w0) (fun μ1 => modX cx μ1 S (fun _ => True) ∧ off 136 13 μ μ1)) [.ref (xa cx 136), .int w0].toArray s 0 0 (xA cx)) (F0 m 30 ls []) := by
        intro d
        induction d with
        | zero =>
          intro i  μLA H locs ls hid hXiLA hoiLA hi1 hno1 hW hl
          obtain ⟨rh_a, nx_a, f1_a, fn_a, frd_a, ft_a, fo_a, fa_a, frw_a, fh_a, fu_a, fb_a, fz_a, fkp_a, g136_a, g137_a, g138_a, g139_a, g140_a, g141_a, g142_a, g143_a, g144_a, g145_a, g146_a, g147_a, g148_a, hg_a, hv_a, ht_a, hnx_a, hrw_a, hse_a, hkp_a, hTr_a⟩ := id hXiLA
          have hV0_a := modX_V0 hXiLA
          refine lv_iload_n hx hb dX5_sacks_30 rfl (lv_at hl 2 rfl) ?_
          refine lv_bipush (v := nI 18) hx hb dX5_sacks_31 (by decide) ?_
          refine nv_cgt (tgt := 184) F (by omega) (by omega) dX5_sacks_33 (by decide) (fun c_5 => ?_) (fun c_5 => ?_)
          · skip
            refine lv_bipush (v := (-9)) hx hb dX5_sacks_184 (by decide) ?_
            have hfin := sk_none (sk_all hn6) (fun z hz t ht9 => hno1 z (by omega) t ht9)
            exact rt_ie F hr hlk hW (by unfold r_sacks; rw [hwh, if_pos rfl, if_neg hnc, if_neg (fun z => z.2 hfin), hfin]) ⟨(modX_tr hXiLA (fun _ _ => trivial)), (fun z hz => by rw [hoiLA z (by omega)])⟩ dX5_sacks_186
          · skip
            exact absurd c_5 (by omega)
        | succ d ihA =>
          intro i  μLA H locs ls hid hXiLA hoiLA hi1 hno1 hW hl
          obtain ⟨rh_a, nx_a, f1_a, fn_a, frd_a, ft_a, fo_a, fa_a, frw_a, fh_a, fu_a, fb_a, fz_a, fkp_a, g136_a, g137_a, g138_a, g139_a, g140_a, g141_a, g142_a, g143_a, g144_a, g145_a, g146_a, g147_a, g148_a, hg_a, hv_a, ht_a, hnx_a, hrw_a, hse_a, hkp_a, hTr_a⟩ := id hXiLA
          have hV0_a := modX_V0 hXiLA
          refine lv_iload_n hx hb dX5_sacks_30 rfl (lv_at hl 2 rfl) ?_
          refine lv_bipush (v := nI 18) hx hb dX5_sacks_31 (by decide) ?_
          refine nv_cgt (tgt := 184) F (by omega) (by omega) dX5_sacks_33 (by decide) (fun c_6 => ?_) (fun c_6 => ?_)
          · skip
            exact absurd c_6 (by omega)
          · skip
            refine lv_iconst (v := nI 0) hx hb dX5_sacks_36 (by decide) ?_
            refine lv_istore_n (lv' := [(3, .int (nI 0)), (0, .ref (xa cx 136)), (1, .int w0), (2, .int (nI i))]) hx hb dX5_sacks_37 rfl hl (by decide) rfl (fun ls hl => ?_)
            have LB : ∀ (d j : Nat)  (μLB : ME) (H : Heap) (locs : List Loc) (ls : Array Slot), j + d = 36 → (modX cx μLB S (fun _ => True)) → (off 136 13 μ μLB) → (∀ t, t < j → ¬ ph (AL S) t i) → St cx s μLB H locs → lv_has ls 9 [(0, .ref (xa cx 136)), (1, .int w0), (2, .int (nI i)), (3, .int (nI j))] → W p l e { frames := 6, cells := 0, slots := 0, locals := 142 } s m [.ref (xa cx 136), .int w0].toArray below meth c H locs 0 0 (MQ below (Ei cx (r_sacks S w0) (fun μ1 => modX cx μ1 S (fun _ => True) ∧ off 136 13 μ μ1)) [.ref (xa cx 136), .int w0].toArray s 0 0 (xA cx)) (F0 m 38 ls []) := by
              intro d
              induction d with
              | zero =>
                intro j  μLB H locs ls hid hXiLB hoiLB hno2 hW hl
                obtain ⟨rh_b, nx_b, f1_b, fn_b, frd_b, ft_b, fo_b, fa_b, frw_b, fh_b, fu_b, fb_b, fz_b, fkp_b, g136_b, g137_b, g138_b, g139_b, g140_b, g141_b, g142_b, g143_b, g144_b, g145_b, g146_b, g147_b, g148_b, hg_b, hv_b, ht_b, hnx_b, hrw_b, hse_b, hkp_b, hTr_b⟩ := id hXiLB
                have hV0_b := modX_V0 hXiLB
                refine lv_iload_n hx hb dX5_sacks_38 rfl (lv_at hl 3 rfl) ?_
                refine lv_bipush (v := nI 36) hx hb dX5_sacks_39 (by decide) ?_
                refine nv_cge (tgt := 178) F (by omega) (by omega) dX5_sacks_41 (by decide) (fun c_7 => ?_) (fun c_7 => ?_)
                · skip
                  refine lv_iinc (v := ((nI (i + 1)))) (lv' := [(2, .int (nI (i + 1))), (0, .ref (xa cx 136)), (1, .int w0), (3, .int (nI j))]) hx hb dX5_sacks_178 hl (k := 2) rfl (nI_add _ _) (by decide) rfl (fun ls hl => ?_)
                  refine lv_goto (tgt := 30) hx hb dX5_sacks_181 (by decide) ?_
                  exact ihA (i + 1) μLB _ _ _ (by omega) (modX_tr hXiLB (fun _ _ => trivial)) (fun z hz => by rw [hoiLB z (by omega)]) (by omega) (fun z hz t ht9 => (Nat.lt_or_ge z i).elim (fun a => hno1 z a t ht9) (fun a => by rw [show z = i by omega]; exact hno2 t (by omega))) hW (lv_sub hl [1, 2, 0] rfl)
                · skip
                  exact absurd c_7 (by omega)
              | succ d ihB =>
                intro j  μLB H locs ls hid hXiLB hoiLB hno2 hW hl
                obtain ⟨rh_b, nx_b, f1_b, fn_b, frd_b, ft_b, fo_b, fa_b, frw_b, fh_b, fu_b, fb_b, fz_b, fkp_b, g136_b, g137_b, g138_b, g139_b, g140_b, g141_b, g142_b, g143_b, g144_b, g145_b, g146_b, g147_b, g148_b, hg_b, hv_b, ht_b, hnx_b, hrw_b, hse_b, hkp_b, hTr_b⟩ := id hXiLB
                have hV0_b := modX_V0 hXiLB
                refine lv_iload_n hx hb dX5_sacks_38 rfl (lv_at hl 3 rfl) ?_
                refine lv_bipush (v := nI 36) hx hb dX5_sacks_39 (by decide) ?_
                refine nv_cge (tgt := 178) F (by omega) (by omega) dX5_sacks_41 (by decide) (fun c_8 => ?_) (fun c_8 => ?_)
                · skip
                  exact absurd c_8 (by omega)
                · skip
                  refine lv_iload_n hx hb dX5_sacks_44 rfl (lv_at hl 3 rfl) ?_
                  refine lv_bipush (v := nI 6) hx hb dX5_sacks_45 (by decide) ?_
                  refine nv_div F (by omega) (by omega) (by omega) dX5_sacks_47 ?_
                  refine lv_istore (lv' := [(4, .int (nI (j / 6))), (0, .ref (xa cx 136)), (1, .int w0), (2, .int (nI i)), (3, .int (nI j))]) hx hb dX5_sacks_48 hl (by decide) rfl (fun ls hl => ?_)
                  refine lv_iload_n hx hb dX5_sacks_50 rfl (lv_at hl 4 rfl) ?_
                  refine lv_bipush (v := nI 6) hx hb dX5_sacks_51 (by decide) ?_
                  refine nv_rem F (by omega) (by omega) (by omega) dX5_sacks_53 ?_
                  refine lv_istore (lv' := [(5, .int (nI (j % 6))), (4, .int (nI (j / 6))), (0, .ref (xa cx 136)), (1, .int w0), (2, .int (nI i)), (3, .int (nI j))]) hx hb dX5_sacks_54 hl (by decide) rfl (fun ls hl => ?_)
                  refine lv_iconst (v := nI 1) hx hb dX5_sacks_56 (by decide) ?_
                  refine lv_istore (lv' := [(6, .int (nI 1)), (5, .int (nI (j % 6))), (4, .int (nI (j / 6))), (0, .ref (xa cx 136)), (1, .int w0), (2, .int (nI i)), (3, .int (nI j))]) hx hb dX5_sacks_57 hl (by decide) rfl (fun ls hl => ?_)
                  have LC : ∀ (d v : Nat)  (μLC : ME) (H : Heap) (locs : List Loc) (ls : Array Slot), v + d = 10 → (modX cx μLC S (fun _ => True)) → (off 136 13 μ μLC) → (1 ≤ v) → (∀ z, 1 ≤ z → z < v → ¬ hvP (AL S) i (j / 6) (j % 6) z) → St cx s μLC H locs → lv_has ls 9 [(0, .ref (xa cx 136)), (1, .int w0), (2, .int (nI i)), (3, .int (nI j)), (4, .int (nI (j / 6))), (5, .int (nI (j % 6))), (6, .int (nI v))] → W p l e { frames := 6, cells := 0, slots := 0, locals := 142 } s m [.ref (xa cx 136), .int w0].toArray below meth c H locs 0 0 (MQ below (Ei cx (r_sacks S w0) (fun μ1 => modX cx μ1 S (fun _ => True) ∧ off 136 13 μ μ1)) [.ref (xa cx 136), .int w0].toArray s 0 0 (xA cx)) (F0 m 59 ls []) := by
                    intro d
                    induction d with
                    | zero =>
                      intro v  μLC H locs ls hid hXiLC hoiLC hv1 hno3 hW hl
                      obtain ⟨rh_c, nx_c, f1_c, fn_c, frd_c, ft_c, fo_c, fa_c, frw_c, fh_c, fu_c, fb_c, fz_c, fkp_c, g136_c, g137_c, g138_c, g139_c, g140_c, g141_c, g142_c, g143_c, g144_c, g145_c, g146_c, g147_c, g148_c, hg_c, hv_c, ht_c, hnx_c, hrw_c, hse_c, hkp_c, hTr_c⟩ := id hXiLC
                      have hV0_c := modX_V0 hXiLC
                      refine lv_iload hx hb dX5_sacks_59 (lv_at hl 6 rfl) ?_
                      refine lv_bipush (v := nI 9) hx hb dX5_sacks_61 (by decide) ?_
                      refine nv_cgt (tgt := 172) F (by omega) (by omega) dX5_sacks_63 (by decide) (fun c_9 => ?_) (fun c_9 => ?_)
                      · skip
                        refine lv_iinc (v := ((nI (j + 1)))) (lv' := [(3, .int (nI (j + 1))), (0, .ref (xa cx 136)), (1, .int w0), (2, .int (nI i)), (4, .int (nI (j / 6))), (5, .int (nI (j % 6))), (6, .int (nI v))]) hx hb dX5_sacks_172 hl (k := 3) rfl (nI_add _ _) (by decide) rfl (fun ls hl => ?_)
                        refine lv_goto (tgt := 38) hx hb dX5_sacks_175 (by decide) ?_
                        have hnj : ¬ ph (AL S) j i := by
                          rintro ⟨q1, q2, q3, v9, q4, q5, q6⟩
                          first | exact hjo q1 | exact hjp q2 | exact absurd q3 (by omega) | exact hno3 v9 q4 (by omega) q6
                        exact ihB (j + 1) μLC _ _ _ (by omega) (modX_tr hXiLC (fun _ _ => trivial)) (fun z hz => by rw [hoiLC z (by omega)]) (fun t ht9 => (Nat.lt_or_ge t j).elim (fun a => hno2 t a) (fun a => by rw [show t = j by omega]; exact hnj)) hW (lv_sub hl [1, 2, 3, 0] rfl)
                      · skip
                        exact absurd c_9 (by omega)
                    | succ d ihC =>
                      intro v  μLC H locs ls hid hXiLC hoiLC hv1 hno3 hW hl
                      obtain ⟨rh_c, nx_c, f1_c, fn_c, frd_c, ft_c, fo_c, fa_c, frw_c, fh_c, fu_c, fb_c, fz_c, fkp_c, g136_c, g137_c, g138_c, g139_c, g140_c, g141_c, g142_c, g143_c, g144_c, g145_c, g146_c, g147_c, g148_c, hg_c, hv_c, ht_c, hnx_c, hrw_c, hse_c, hkp_c, hTr_c⟩ := id hXiLC
                      have hV0_c := modX_V0 hXiLC
                      refine lv_iload hx hb dX5_sacks_59 (lv_at hl 6 rfl) ?_
                      refine lv_bipush (v := nI 9) hx hb dX5_sacks_61 (by decide) ?_
                      refine nv_cgt (tgt := 172) F (by omega) (by omega) dX5_sacks_63 (by decide) (fun c_10 => ?_) (fun c_10 => ?_)
                      · skip
                        exact absurd c_10 (by omega)
                      · skip
                        refine lv_aload_n hx hb dX5_sacks_66 rfl (lv_at hl 0 rfl) ?_
                        refine lv_iload hx hb dX5_sacks_67 (lv_at hl 4 rfl) ?_
                        refine cl_ip (cl_run (rest := []) F hW e_X5_91 (m_isHouseN hI l hN hV0_c hk (by omega) (by omega) (j / 6) (by omega)) ⟨Nat.le_of_ble_eq_true rfl, Nat.le_of_ble_eq_true rfl⟩ (by omega) g136_c rfl rfl rfl hl (Nat.le_of_ble_eq_true rfl) dX5_sacks_69 ⟨Nat.zero_le _, Nat.zero_le _⟩) hW (fun H locs hW => ?_)
                        refine nv_beq (tgt := 172) F dX5_sacks_72 (by decide) (fun c_11 => ?_) (fun c_11 => ?_)
                        · skip
                          have hjo := of_decide_eq_false c_11
                          refine lv_iinc (v := ((nI (j + 1)))) (lv' := [(3, .int (nI (j + 1))), (0, .ref (xa cx 136)), (1, .int w0), (2, .int (nI i)), (4, .int (nI (j / 6))), (5, .int (nI (j % 6))), (6, .int (nI v))]) hx hb dX5_sacks_172 hl (k := 3) rfl (nI_add _ _) (by decide) rfl (fun ls hl => ?_)
                          refine lv_goto (tgt := 38) hx hb dX5_sacks_175 (by decide) ?_
                          have hnj : ¬ ph (AL S) j i := by
                            rintro ⟨q1, q2, q3, v9, q4, q5, q6⟩
                            first | exact hjo q1 | exact hjp q2 | exact absurd q3 (by omega) | exact hno3 v9 q4 (by omega) q6
                          exact ihB (j + 1) μLC _ _ _ (by omega) (modX_tr hXiLC (fun _ _ => trivial)) (fun z hz => by rw [hoiLC z (by omega)]) (fun t ht9 => (Nat.lt_or_ge t j).elim (fun a => hno2 t a) (fun a => by rw [show t = j by omega]; exact hnj)) hW (lv_sub hl [1, 2, 3, 0] rfl)
                        · skip
                          have hjo := of_decide_eq_true c_11
                          refine lv_aload_n hx hb dX5_sacks_75 rfl (lv_at hl 0 rfl) ?_
                          refine lv_iload hx hb dX5_sacks_76 (lv_at hl 5 rfl) ?_
                          refine cl_ip (cl_run (rest := []) F hW e_X5_91 (m_isHouseN hI l hN hV0_c hk (by omega) (by omega) (j % 6) (by omega)) ⟨Nat.le_of_ble_eq_true rfl, Nat.le_of_ble_eq_true rfl⟩ (by omega) g136_c rfl rfl rfl hl (Nat.le_of_ble_eq_true rfl) dX5_sacks_78 ⟨Nat.zero_le _, Nat.zero_le _⟩) hW (fun H locs hW => ?_)
                          refine nv_beq (tgt := 172) F dX5_sacks_81 (by decide) (fun c_12 => ?_) (fun c_12 => ?_)
                          · skip
                            have hjp := of_decide_eq_false c_12
                            refine lv_iinc (v := ((nI (j + 1)))) (lv' := [(3, .int (nI (j + 1))), (0, .ref (xa cx 136)), (1, .int w0), (2, .int (nI i)), (4, .int (nI (j / 6))), (5, .int (nI (j % 6))), (6, .int (nI v))]) hx hb dX5_sacks_172 hl (k := 3) rfl (nI_add _ _) (by decide) rfl (fun ls hl => ?_)
                            refine lv_goto (tgt := 38) hx hb dX5_sacks_175 (by decide) ?_
                            have hnj : ¬ ph (AL S) j i := by
                              rintro ⟨q1, q2, q3, v9, q4, q5, q6⟩
                              first | exact hjo q1 | exact hjp q2 | exact absurd q3 (by omega) | exact hno3 v9 q4 (by omega) q6
                            exact ihB (j + 1) μLC _ _ _ (by omega) (modX_tr hXiLC (fun _ _ => trivial)) (fun z hz => by rw [hoiLC z (by omega)]) (fun t ht9 => (Nat.lt_or_ge t j).elim (fun a => hno2 t a) (fun a => by rw [show t = j by omega]; exact hnj)) hW (lv_sub hl [1, 2, 3, 0] rfl)
                          · skip
                            have hjp := of_decide_eq_true c_12
                            refine lv_iload hx hb dX5_sacks_84 (lv_at hl 4 rfl) ?_
                            refine lv_iload hx hb dX5_sacks_86 (lv_at hl 5 rfl) ?_
                            refine nv_cgt (tgt := 172) F (by omega) (by omega) dX5_sacks_88 (by decide) (fun c_13 => ?_) (fun c_13 => ?_)
                            · skip
                              refine lv_iinc (v := ((nI (j + 1)))) (lv' := [(3, .int (nI (j + 1))), (0, .ref (xa cx 136)), (1, .int w0), (2, .int (nI i)), (4, .int (nI (j / 6))), (5, .int (nI (j % 6))), (6, .int (nI v))]) hx hb dX5_sacks_172 hl (k := 3) rfl (nI_add _ _) (by decide) rfl (fun ls hl => ?_)
                              refine lv_goto (tgt := 38) hx hb dX5_sacks_175 (by decide) ?_
                              have hnj : ¬ ph (AL S) j i := by
                                rintro ⟨q1, q2, q3, v9, q4, q5, q6⟩
                                first | exact hjo q1 | exact hjp q2 | exact absurd q3 (by omega) | exact hno3 v9 q4 (by omega) q6
                              exact ihB (j + 1) μLC _ _ _ (by omega) (modX_tr hXiLC (fun _ _ => trivial)) (fun z hz => by rw [hoiLC z (by omega)]) (fun t ht9 => (Nat.lt_or_ge t j).elim (fun a => hno2 t a) (fun a => by rw [show t = j by omega]; exact hnj)) hW (lv_sub hl [1, 2, 3, 0] rfl)
                            · skip
                              refine lv_iload_n hx hb dX5_sacks_91 rfl (lv_at hl 2 rfl) ?_
                              refine lv_iload hx hb dX5_sacks_92 (lv_at hl 6 rfl) ?_
                              refine lv_isub hx hb dX5_sacks_94 ?_
                              refine lv_istore (lv' := [(7, .int (((nI i)) - ((nI v)))), (0, .ref (xa cx 136)), (1, .int w0), (2, .int (nI i)), (3, .int (nI j)), (4, .int (nI (j / 6))), (5, .int (nI (j % 6))), (6, .int (nI v))]) hx hb dX5_sacks_95 hl (by decide) rfl (fun ls hl => ?_)
                              refine lv_iload hx hb dX5_sacks_97 (lv_at hl 5 rfl) ?_
                              refine lv_iload hx hb dX5_sacks_99 (lv_at hl 6 rfl) ?_
                              refine nv_cne (tgt := 117) F (by omega) (by omega) dX5_sacks_101 (by decide) (fun c_14 => ?_) (fun c_14 => ?_)
                              · skip
                                refine lv_iload hx hb dX5_sacks_117 (lv_at hl 0 rfl) ?_
                                refine lv_i2l hx hb dX5_sacks_119 rfl ?_
                                refine lv_lconst (v := lN 1) hx hb dX5_sacks_120 (by decide) ?_
                                refine lv_ldc2 (v := lN 9) hx hb F.1.2.2.2.1 (hts _ tw_768) dX5_sacks_121 ?_
                                refine cl_ip (cl_runS (rest := []) F hW e_X5_49 (m_in hI l ((((((nI i)) - ((nI v)))).toInt64)) ((lN 1)) ((lN 9))) ⟨Nat.le_of_ble_eq_true rfl, Nat.le_of_ble_eq_true rfl⟩ rfl rfl hl (Nat.le_of_ble_eq_true rfl) dX5_sacks_124 ⟨Nat.zero_le _, Nat.zero_le _⟩) hW (fun H locs hW => ?_)
                                refine nv_top (y := ((b2 (carI (nI i - nI v))))) (congrArg b2 (inL_car _)) ?_
                                refine lv_istore (lv' := [(8, .int (b2 (carI (nI i - nI v)))), (7, .int (((nI i)) - ((nI v)))), (0, .ref (xa cx 136)), (1, .int w0), (2, .int (nI i)), (3, .int (nI j)), (4, .int (nI (j / 6))), (5, .int (nI (j % 6))), (6, .int (nI v))]) hx hb dX5_sacks_127 hl (by decide) rfl (fun ls hl => ?_)
                                refine lv_iload hx hb dX5_sacks_129 (lv_at hl 0 rfl) ?_
                                refine nv_beq (tgt := 166) F dX5_sacks_131 (by decide) (fun c_15 => ?_) (fun c_15 => ?_)
                                · skip
                                  have hno := c_15
                                  rw [car_sub (by omega) (by omega)] at hno
                                  have hno := of_decide_eq_false hno
                                  refine lv_iinc (v := ((nI (v + 1)))) (lv' := [(6, .int (nI (v + 1))), (8, .int (b2 (carI (nI i - nI v)))), (7, .int (((nI i)) - ((nI v)))), (0, .ref (xa cx 136)), (1, .int w0), (2, .int (nI i)), (3, .int (nI j)), (4, .int (nI (j / 6))), (5, .int (nI (j % 6)))]) hx hb dX5_sacks_166 hl (k := 8) rfl (nI_add _ _) (by decide) rfl (fun ls hl => ?_)
                                  refine lv_goto (tgt := 59) hx hb dX5_sacks_169 (by decide) ?_
                                  have hnv : ¬ hvP (AL S) i (j / 6) (j % 6) v := by
                                    rintro ⟨q1, q2⟩
                                    first | exact absurd (hsa.symm.trans q2) (by decide) | (rw [if_pos (by omega)] at q1; exact hiv q1) | (rw [if_neg (by omega)] at q1; exact hno q1)
                                  exact ihC (v + 1) μLC _ _ _ (by omega) (modX_tr hXiLC (fun _ _ => trivial)) (fun z hz => by rw [hoiLC z (by omega)]) (by omega) (fun z hz1 hz => (Nat.lt_or_ge z v).elim (fun a => hno3 z hz1 a) (fun a => by rw [show z = v by omega]; exact hnv)) hW (lv_sub hl [3, 4, 5, 6, 7, 8, 0] rfl)
                                · skip
                                  have hcw := c_15
                                  rw [car_sub (by omega) (by omega)] at hcw
                                  have hcw := of_decide_eq_true hcw
                                  rw [pk_sub (show v ≤ i by omega)] at hl
                                  refine lv_aload_n hx hb dX5_sacks_134 rfl (lv_at hl 2 rfl) ?_
                                  refine lv_iload hx hb dX5_sacks_135 (lv_at hl 6 rfl) ?_
                                  refine lv_iload hx hb dX5_sacks_137 (lv_at hl 7 rfl) ?_
                                  refine lv_iload hx hb dX5_sacks_139 (lv_at hl 8 rfl) ?_
                                  refine lv_iload hx hb dX5_sacks_141 (lv_at hl 1 rfl) ?_
                                  refine cl_ie (cl_run (rest := []) F hW e_X5_164 (m_isSafe hI l hN hXiLC hA hMo hB (j / 6) (j % 6) v (i - v) hjo hjp (by omega) (by omega) (by omega)) ⟨Nat.le_of_ble_eq_true rfl, Nat.le_of_ble_eq_true rfl⟩ (by omega) g136_c rfl rfl rfl hl (Nat.le_of_ble_eq_true rfl) dX5_sacks_143 ⟨Nat.zero_le _, Nat.zero_le _⟩) hW (fun μ16 H locs q_16 hW => ?_)
                                  obtain ⟨hX_16, ho_16⟩ := q_16
                                  obtain ⟨rh_16, nx_16, f1_16, fn_16, frd_16, ft_16, fo_16, fa_16, frw_16, fh_16, fu_16, fb_16, fz_16, fkp_16, g136_16, g137_16, g138_16, g139_16, g140_16, g141_16, g142_16, g143_16, g144_16, g145_16, g146_16, g147_16, g148_16, hg_16, hv_16, ht_16, hnx_16, hrw_16, hse_16, hkp_16, hTr_16⟩ := id hX_16
                                  have hV0_16 := modX_V0 hX_16
                                  refine nv_beq (tgt := 166) F dX5_sacks_146 (by decide) (fun c_17 => ?_) (fun c_17 => ?_)
                                  · skip
                                    have hsa := c_17
                                    refine lv_iinc (v := ((nI (v + 1)))) (lv' := [(6, .int (nI (v + 1))), (8, .int (b2 (carI (nI (i - v))))), (7, .int (nI (i - v))), (0, .ref (xa cx 136)), (1, .int w0), (2, .int (nI i)), (3, .int (nI j)), (4, .int (nI (j / 6))), (5, .int (nI (j % 6)))]) hx hb dX5_sacks_166 hl (k := 8) rfl (nI_add _ _) (by decide) rfl (fun ls hl => ?_)
                                    refine lv_goto (tgt := 59) hx hb dX5_sacks_169 (by decide) ?_
                                    have hnv : ¬ hvP (AL S) i (j / 6) (j % 6) v := by
                                      rintro ⟨q1, q2⟩
                                      first | exact absurd (hsa.symm.trans q2) (by decide) | (rw [if_pos (by omega)] at q1; exact hiv q1) | (rw [if_neg (by omega)] at q1; exact hno q1)
                                    exact ihC (v + 1) μ16 _ _ _ (by omega) (modX_tr hX_16 (fun _ _ => trivial)) (fun z hz => by rw [ho_16 z (by omega)]; rw [hoiLC z (by omega)]) (by omega) (fun z hz1 hz => (Nat.lt_or_ge z v).elim (fun a => hno3 z hz1 a) (fun a => by rw [show z = v by omega]; exact hnv)) hW (lv_sub hl [3, 4, 5, 6, 7, 8, 0] rfl)
                                  · skip
                                    have hsa := c_17
                                    refine lv_iload_n hx hb dX5_sacks_149 rfl (lv_at hl 3 rfl) ?_
                                    refine lv_if_ne (tgt := 157) hx hb dX5_sacks_150 (by decide) (fun c_18 => ?_) (fun c_18 => ?_)
                                    · skip
                                      refine lv_bipush (v := nI 10) hx hb dX5_sacks_157 (by decide) ?_
                                      refine lv_iload hx hb dX5_sacks_159 (lv_at hl 6 rfl) ?_
                                      refine nv_mul F dX5_sacks_161 ?_
                                      refine lv_iload hx hb dX5_sacks_162 (lv_at hl 7 rfl) ?_
                                      refine nv_add F dX5_sacks_164 ?_
                                      have hph : ph (AL S) j i := ⟨hjo, hjp, by omega, v, hv1, by omega, by first | (rw [if_pos (by omega)]; omega) | (rw [if_neg (by omega)]; omega), hsa⟩
                                      have hfin := sk_hit (sk_all hn6) (show i < 19 by omega) (show j < 36 by omega) hph hno1 hno2
                                      exact rt_ie F hr hlk hW (by unfold r_sacks; rw [hwh, if_pos rfl, if_neg hnc, hfin.1, hfin.2]; rw [if_neg (fun z => by have := z.1; contradiction)]) ⟨(modX_tr hX_16 (fun _ _ => trivial)), (fun z hz => by rw [ho_16 z (by omega)]; rw [hoiLC z (by omega)])⟩ dX5_sacks_165
                                    · skip
                                      refine lv_iload_n hx hb dX5_sacks_153 rfl (lv_at hl 4 rfl) ?_
                                      refine lv_goto (tgt := 165) hx hb dX5_sacks_154 (by decide) ?_
                                      have hph : ph (AL S) j i := ⟨hjo, hjp, by omega, v, hv1, by omega, by first | (rw [if_pos (by omega)]; omega) | (rw [if_neg (by omega)]; omega), hsa⟩
                                      have hfin := sk_hit (sk_all hn6) (show i < 19 by omega) (show j < 36 by omega) hph hno1 hno2
                                      exact rt_ie F hr hlk hW (by unfold r_sacks; rw [hwh, if_pos rfl, if_neg hnc, hfin.1, hfin.2]; rw [if_pos ⟨by assumption, nI_ne (by omega) (by decide)⟩]) ⟨(modX_tr hX_16 (fun _ _ => trivial)), (fun z hz => by rw [ho_16 z (by omega)]; rw [hoiLC z (by omega)])⟩ dX5_sacks_165
                              · skip
                                refine lv_iload hx hb dX5_sacks_104 (lv_at hl 0 rfl) ?_
                                refine lv_if_ne (tgt := 113) hx hb dX5_sacks_106 (by decide) (fun c_19 => ?_) (fun c_19 => ?_)
                                · skip
                                  have hiv := fun z9 => c_19 ((sub_0 (show i < 1000 by omega) (show v < 1000 by omega)).mpr z9)
                                  refine lv_iconst (v := nI 0) hx hb dX5_sacks_113 (by decide) ?_
                                  refine lv_goto (tgt := 127) hx hb dX5_sacks_114 (by decide) ?_
                                  refine lv_istore (lv' := [(8, .int (nI 0)), (7, .int (((nI i)) - ((nI v)))), (0, .ref (xa cx 136)), (1, .int w0), (2, .int (nI i)), (3, .int (nI j)), (4, .int (nI (j / 6))), (5, .int (nI (j % 6))), (6, .int (nI v))]) hx hb dX5_sacks_127 hl (by decide) rfl (fun ls hl => ?_)
                                  refine lv_iload hx hb dX5_sacks_129 (lv_at hl 0 rfl) ?_
                                  refine nv_zeq (tgt := 166) F (by decide) dX5_sacks_131 (by decide) (fun c_20 => ?_) (fun c_20 => ?_)
                                  · skip
                                    refine lv_iinc (v := ((nI (v + 1)))) (lv' := [(6, .int (nI (v + 1))), (8, .int (nI 0)), (7, .int (((nI i)) - ((nI v)))), (0, .ref (xa cx 136)), (1, .int w0), (2, .int (nI i)), (3, .int (nI j)), (4, .int (nI (j / 6))), (5, .int (nI (j % 6)))]) hx hb dX5_sacks_166 hl (k := 8) rfl (nI_add _ _) (by decide) rfl (fun ls hl => ?_)
                                    refine lv_goto (tgt := 59) hx hb dX5_sacks_169 (by decide) ?_
                                    have hnv : ¬ hvP (AL S) i (j / 6) (j % 6) v := by
                                      rintro ⟨q1, q2⟩
                                      first | exact absurd (hsa.symm.trans q2) (by decide) | (rw [if_pos (by omega)] at q1; exact hiv q1) | (rw [if_neg (by omega)] at q1; exact hno q1)
                                    exact ihC (v + 1) μLC _ _ _ (by omega) (modX_tr hXiLC (fun _ _ => trivial)) (fun z hz => by rw [hoiLC z (by omega)]) (by omega) (fun z hz1 hz => (Nat.lt_or_ge z v).elim (fun a => hno3 z hz1 a) (fun a => by rw [show z = v by omega]; exact hnv)) hW (lv_sub hl [3, 4, 5, 6, 7, 8, 0] rfl)
                                  · skip
                                    exact absurd c_20 (by decide)
                                · skip
                                  have hiv := (sub_0 (by omega) (by omega)).mp c_19
                                  refine lv_iconst (v := nI 1) hx hb dX5_sacks_109 (by decide) ?_
                                  refine lv_goto (tgt := 127) hx hb dX5_sacks_110 (by decide) ?_
                                  refine lv_istore (lv' := [(8, .int (nI 1)), (7, .int (((nI i)) - ((nI v)))), (0, .ref (xa cx 136)), (1, .int w0), (2, .int (nI i)), (3, .int (nI j)), (4, .int (nI (j / 6))), (5, .int (nI (j % 6))), (6, .int (nI v))]) hx hb dX5_sacks_127 hl (by decide) rfl (fun ls hl => ?_)
                                  refine lv_iload hx hb dX5_sacks_129 (lv_at hl 0 rfl) ?_
                                  refine nv_zeq (tgt := 166) F (by decide) dX5_sacks_131 (by decide) (fun c_21 => ?_) (fun c_21 => ?_)
                                  · skip
                                    exact absurd c_21 (by decide)
                                  · skip
                                    have hcw := hiv
                                    rw [pk_sub (show v ≤ i by omega)] at hl
                                    refine lv_aload_n hx hb dX5_sacks_134 rfl (lv_at hl 2 rfl) ?_
                                    refine lv_iload hx hb dX5_sacks_135 (lv_at hl 6 rfl) ?_
                                    refine lv_iload hx hb dX5_sacks_137 (lv_at hl 7 rfl) ?_
                                    refine lv_iload hx hb dX5_sacks_139 (lv_at hl 8 rfl) ?_
                                    refine lv_iload hx hb dX5_sacks_141 (lv_at hl 1 rfl) ?_
                                    refine cl_ie (cl_run (rest := []) F hW e_X5_164 (m_isSafe hI l hN hXiLC hA hMo hB (j / 6) (j % 6) v (i - v) hjo hjp (by omega) (by omega) (by omega)) ⟨Nat.le_of_ble_eq_true rfl, Nat.le_of_ble_eq_true rfl⟩ (by omega) g136_c rfl rfl rfl hl (Nat.le_of_ble_eq_true rfl) dX5_sacks_143 ⟨Nat.zero_le _, Nat.zero_le _⟩) hW (fun μ22 H locs q_22 hW => ?_)
                                    obtain ⟨hX_22, ho_22⟩ := q_22
                                    obtain ⟨rh_22, nx_22, f1_22, fn_22, frd_22, ft_22, fo_22, fa_22, frw_22, fh_22, fu_22, fb_22, fz_22, fkp_22, g136_22, g137_22, g138_22, g139_22, g140_22, g141_22, g142_22, g143_22, g144_22, g145_22, g146_22, g147_22, g148_22, hg_22, hv_22, ht_22, hnx_22, hrw_22, hse_22, hkp_22, hTr_22⟩ := id hX_22
                                    have hV0_22 := modX_V0 hX_22
                                    refine nv_beq (tgt := 166) F dX5_sacks_146 (by decide) (fun c_23 => ?_) (fun c_23 => ?_)
                                    · skip
                                      have hsa := c_23
                                      refine lv_iinc (v := ((nI (v + 1)))) (lv' := [(6, .int (nI (v + 1))), (8, .int (nI 1)), (7, .int (nI (i - v))), (0, .ref (xa cx 136)), (1, .int w0), (2, .int (nI i)), (3, .int (nI j)), (4, .int (nI (j / 6))), (5, .int (nI (j % 6)))]) hx hb dX5_sacks_166 hl (k := 8) rfl (nI_add _ _) (by decide) rfl (fun ls hl => ?_)
                                      refine lv_goto (tgt := 59) hx hb dX5_sacks_169 (by decide) ?_
                                      have hnv : ¬ hvP (AL S) i (j / 6) (j % 6) v := by
                                        rintro ⟨q1, q2⟩
                                        first | exact absurd (hsa.symm.trans q2) (by decide) | (rw [if_pos (by omega)] at q1; exact hiv q1) | (rw [if_neg (by omega)] at q1; exact hno q1)
                                      exact ihC (v + 1) μ22 _ _ _ (by omega) (modX_tr hX_22 (fun _ _ => trivial)) (fun z hz => by rw [ho_22 z (by omega)]; rw [hoiLC z (by omega)]) (by omega) (fun z hz1 hz => (Nat.lt_or_ge z v).elim (fun a => hno3 z hz1 a) (fun a => by rw [show z = v by omega]; exact hnv)) hW (lv_sub hl [3, 4, 5, 6, 7, 8, 0] rfl)
                                    · skip
                                      have hsa := c_23
                                      refine lv_iload_n hx hb dX5_sacks_149 rfl (lv_at hl 3 rfl) ?_
                                      refine lv_if_ne (tgt := 157) hx hb dX5_sacks_150 (by decide) (fun c_24 => ?_) (fun c_24 => ?_)
                                      · skip
                                        refine lv_bipush (v := nI 10) hx hb dX5_sacks_157 (by decide) ?_
                                        refine lv_iload hx hb dX5_sacks_159 (lv_at hl 6 rfl) ?_
                                        refine nv_mul F dX5_sacks_161 ?_
                                        refine lv_iload hx hb dX5_sacks_162 (lv_at hl 7 rfl) ?_
                                        refine nv_add F dX5_sacks_164 ?_
                                        have hph : ph (AL S) j i := ⟨hjo, hjp, by omega, v, hv1, by omega, by first | (rw [if_pos (by omega)]; omega) | (rw [if_neg (by omega)]; omega), hsa⟩
                                        have hfin := sk_hit (sk_all hn6) (show i < 19 by omega) (show j < 36 by omega) hph hno1 hno2
                                        exact rt_ie F hr hlk hW (by unfold r_sacks; rw [hwh, if_pos rfl, if_neg hnc, hfin.1, hfin.2]; rw [if_neg (fun z => by have := z.1; contradiction)]) ⟨(modX_tr hX_22 (fun _ _ => trivial)), (fun z hz => by rw [ho_22 z (by omega)]; rw [hoiLC z (by omega)])⟩ dX5_sacks_165
                                      · skip
                                        refine lv_iload_n hx hb dX5_sacks_153 rfl (lv_at hl 4 rfl) ?_
                                        refine lv_goto (tgt := 165) hx hb dX5_sacks_154 (by decide) ?_
                                        have hph : ph (AL S) j i := ⟨hjo, hjp, by omega, v, hv1, by omega, by first | (rw [if_pos (by omega)]; omega) | (rw [if_neg (by omega)]; omega), hsa⟩
                                        have hfin := sk_hit (sk_all hn6) (show i < 19 by omega) (show j < 36 by omega) hph hno1 hno2
                                        exact rt_ie F hr hlk hW (by unfold r_sacks; rw [hwh, if_pos rfl, if_neg hnc, hfin.1, hfin.2]; rw [if_pos ⟨by assumption, nI_ne (by omega) (by decide)⟩]) ⟨(modX_tr hX_22 (fun _ _ => trivial)), (fun z hz => by rw [ho_22 z (by omega)]; rw [hoiLC z (by omega)])⟩ dX5_sacks_165
                  exact LC 9 1 μLB _ _ _ (by omega) (modX_tr hXiLB (fun _ _ => trivial)) (fun z hz => by rw [hoiLB z (by omega)]) (by omega) (fun z hz1 hz q9 => by omega) hW (lv_sub hl [3, 4, 5, 6, 2, 1, 0] rfl)
            exact LB 36 0 μLA _ _ _ (by omega) (modX_tr hXiLA (fun _ _ => trivial)) (fun z hz => by rw [hoiLA z (by omega)]) (fun t ht9 => absurd ht9 (by omega)) hW (lv_sub hl [1, 2, 3, 0] rfl)
      exact LA 18 1 μ3 _ _ _ (by omega) (modX_tr hX_3 (fun _ _ => trivial)) (fun z hz => by rw [ho_3 z (by omega)]; rw [ho_2 z (by omega)]) (by omega) (fun z hz t ht9 q9 => by obtain ⟨_, _, _, v9, h1, h2, h3⟩ := q9; have h3 := h3.1; split at h3 <;> omega) hW (lv_sub hl [1, 2, 0] rfl)
    · skip
      refine lv_iconst (v := nI 0) hx hb dX5_sacks_26 (by decide) ?_
      exact rt_ie F hr hlk hW (by unfold r_sacks; rw [hwh, if_pos rfl, if_pos ((orF_calm _ 6).mp (by assumption))]) ⟨(modX_tr hX_3 (fun _ _ => trivial)), (fun z hz => by rw [ho_3 z (by omega)]; rw [ho_2 z (by omega)])⟩ dX5_sacks_27
  · skip
    refine lv_bipush (v := (-2)) hx hb dX5_sacks_10 (by decide) ?_
    exact rt_ie F hr hlk hW (by unfold r_sacks; rw [‹halI w0 = false›]; rfl) ⟨(modX_tr hX (fun _ _ => trivial)), off_rf⟩ dX5_sacks_12
