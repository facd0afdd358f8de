/-! ===== the abstract machine: a memory of numbered cells over the heap; am_Ev says that a frame comes to its method's end ===== -/
abbrev am_S : Type := List (Nat × Nat)
abbrev am_M : Type := (Nat → Nat → Int32) × (Nat → Nat → Int64) × (Nat → Nat → Option Nat)
abbrev am_G : Type := Nat × Nat × va_G × ClassId × ClassId × ClassId
abbrev am_me : Type := Nat × MethodName × ByteArray × Nat × Option FieldType × Nat
def am_up (G : am_G) (a : Nat) : Nat := if a = 0 then G.1 else G.2.1 + a
def am_cv (G : am_G) : Value → Value
  | .ref a => .ref (am_up G a)
  | v => v
def am_nt {α : Type} : List α → Nat → Option α
  | [], _ => none
  | x :: _, 0 => some x
  | _ :: r, n + 1 => am_nt r n
theorem am_nt_get {α : Type} : ∀ (l : List α) (i : Nat), am_nt l i = l[i]?
  | [], i => by simp [am_nt]
  | x :: r, 0 => by simp [am_nt]
  | x :: r, n + 1 => by simp [am_nt, am_nt_get r n]
def am_fts : List (List Nat) := [[2, 2, 2, 2, 2, 2, 2, 0, 0, 0], [2, 1, 0, 0, 0, 0, 0, 0], [2, 2, 2, 2, 2, 1, 0, 0, 0], [2, 0], [2, 2, 2, 0], [2, 0], [2, 0, 0, 0, 0, 0, 0, 0, 0], [2, 2, 2, 2, 2], [2, 2, 2, 2, 0, 0, 2, 0, 2, 0, 2, 2, 2, 2, 2, 2, 2, 0, 0, 0, 2]]
def am_ft (ci k : Nat) : Nat := ((am_nt am_fts ci).bind (fun r => am_nt r k)).getD 0
def am_sv (G : am_G) (M : am_M) (ci a k : Nat) : Value := match am_ft ci k with
  | 0 => .int (M.1 a k)
  | 1 => .long (M.2.1 a k)
  | _ => va_rf ((M.2.2 a k).map (am_up G))
def am_en (G : am_G) (M : am_M) (a : Nat) (q : Nat × Nat) : va_E := match q.1 with
  | 9 => .inl (G.2.2.2.1, q.2, .inl (M.1 a))
  | 10 => .inl (G.2.2.2.2.1, q.2, .inr (.inl (M.2.1 a)))
  | 11 => .inl (G.2.2.2.2.2, q.2, .inr (.inr (.inr (.inr (fun k => (M.2.2 a k).map (am_up G))))))
  | ci => .inr (ci, (List.range q.2).map (am_sv G M ci a))
def am_ws (G : am_G) (sh : am_S) (M : am_M) : va_W := (List.range (sh.length - 1)).map (fun j => (G.2.1 + (j + 1), am_en G M (j + 1) ((am_nt sh (j + 1)).getD (9, 0))))
theorem am_nt_lt {α : Type} {l : List α} {i : Nat} {x : α} (h : am_nt l i = some x) : i < l.length := by
  rw [am_nt_get] at h
  exact (List.getElem?_eq_some_iff.mp h).1
theorem am_ws_len (G : am_G) (sh : am_S) (M : am_M) : (am_ws G sh M).length = sh.length - 1 := by simp [am_ws]
theorem am_ws_at {G : am_G} {sh : am_S} {M : am_M} {a : Nat} {q : Nat × Nat} (h : am_nt sh a = some q) (ha : a ≠ 0) : (am_ws G sh M)[a - 1]? = some (am_up G a, am_en G M a q) := by
  have hl := am_nt_lt h
  have e : a - 1 + 1 = a := by omega
  have hr : a - 1 < sh.length - 1 := by omega
  simp only [am_ws, List.getElem?_map, List.getElem?_range hr, Option.map_some, e, h, Option.getD_some, am_up, if_neg ha]
def am_A (G : am_G) : Nat → Prop := fun q => G.2.1 < q
theorem am_ws_D (G : am_G) (sh : am_S) (M : am_M) : va_D (am_A G) (am_ws G sh M) := by
  have key : ∀ (k : Nat) (q : Nat × va_E), (am_ws G sh M)[k]? = some q → q.1 = G.2.1 + (k + 1) := by
    intro k q hk
    have hl := (List.getElem?_eq_some_iff.mp hk).1
    rw [am_ws_len] at hl
    simp only [am_ws, List.getElem?_map, List.getElem?_range hl, Option.map_some, Option.some.injEq] at hk
    rw [← hk]
  refine ⟨fun i j p q hi hj hpq => ?_, fun k q hk => ?_⟩
  · have h1 := key i p hi
    have h2 := key j q hj
    omega
  · have h1 := key k q hk
    show G.2.1 < q.1
    omega
/-- memories that differ at one cell at most -/
def am_one (M M' : am_M) (a : Nat) : Prop := ∀ b, b ≠ a → M'.1 b = M.1 b ∧ M'.2.1 b = M.2.1 b ∧ M'.2.2 b = M.2.2 b
theorem am_sv_one {G : am_G} {M M' : am_M} {a b : Nat} (h : am_one M M' a) (hb : b ≠ a) (ci : Nat) : am_sv G M' ci b = am_sv G M ci b := by
  obtain ⟨h1, h2, h3⟩ := h b hb
  funext k
  simp only [am_sv, h1, h2, h3]
theorem am_en_one {G : am_G} {M M' : am_M} {a b : Nat} (h : am_one M M' a) (hb : b ≠ a) (q : Nat × Nat) : am_en G M' b q = am_en G M b q := by
  obtain ⟨h1, h2, h3⟩ := h b hb
  unfold am_en
  split <;> simp only [h1, h2, h3, am_sv_one h hb]
theorem am_ws_set {G : am_G} {sh : am_S} {M M' : am_M} {a : Nat} {q : Nat × Nat} (h : am_one M M' a) (hq : am_nt sh a = some q) (ha : a ≠ 0) : am_ws G sh M' = (am_ws G sh M).set (a - 1) (am_up G a, am_en G M' a q) := by
  have hl := am_nt_lt hq
  apply List.ext_getElem?
  intro k
  by_cases hk : k = a - 1
  · subst hk
    rw [am_ws_at hq ha, List.getElem?_set_self (by rw [am_ws_len]; omega)]
  · rw [List.getElem?_set_ne (Ne.symm hk)]
    by_cases hk2 : k < sh.length - 1
    · have hne : k + 1 ≠ a := by omega
      simp only [am_ws, List.getElem?_map, List.getElem?_range hk2, Option.map_some, am_en_one h hne]
    · rw [List.getElem?_eq_none (by rw [am_ws_len]; omega), List.getElem?_eq_none (by rw [am_ws_len]; omega)]
def am_ty (G : am_G) : List (ClassId × FieldType) := [(G.2.2.2.1, .int), (G.2.2.2.2.1, .long), (G.2.2.2.2.2, .object "UndeleteDesks$Disk")]
def am_W (G : am_G) (sh : am_S) (M : am_M) (s : State) (H : Heap) : Prop :=
  G.1 ≤ G.2.1 ∧ H.size = G.2.1 + sh.length ∧ va_P G.2.2.1 vwCl (am_ws G sh M) H ∧ va_K G.2.2.1 vwCl (am_ty G) s ∧ ∃ L, am_nt sh 0 = some (9, L) ∧ va_X G.1 L (M.1 0) s H
theorem am_W.moved {G : am_G} {sh : am_S} {M : am_M} {u U : State} {H : Heap} (hvm : u.vm.Alike U.vm) (h : am_W G sh M u H) : am_W G sh M U H := by
  obtain ⟨h1, h2, h3, h4, L, h5, h6⟩ := h
  exact ⟨h1, h2, h3, h4.moved hvm, L, h5, h6.moved hvm⟩
def am_wd : List Cond := lw_tbl.filter goodWord
def am_isN : Cond → Bool
  | .fieldLinkNest .. => true
  | .methodLinkNest .. => true
  | _ => false
def am_nw : List Cond := lw_tbl.filter am_isN
def am_N (U : State) : Prop := (∀ w ∈ am_nw, va_Nw w U) ∧ va_AO "UndeleteDesks$Disk" U
theorem am_N.warm {s U : State} (hW : s.WarmedH U.vm) (h : am_N s) : am_N U := by
  refine ⟨fun w hw => ?_, h.2.moved hW.alike⟩
  have h1 := h.1 w hw
  have h2 := (List.mem_filter.mp hw).2
  cases w <;> first | exact va_Nw.warmF hW h1 | exact va_Nw.warmM hW h1 | cases h2
theorem am_N.same {u U : State} (hv : u.vm = U.vm) (h : am_N u) : am_N U := by
  refine ⟨fun w hw => ?_, h.2.moved (by rw [hv]; exact Vm.Alike.refl _)⟩
  have h1 := h.1 w hw
  have h2 := (List.mem_filter.mp hw).2
  cases w <;> first | exact va_Nw.same rfl hv h1 | cases h2
theorem am_in {i : Nat} {w : Cond} (h : (decide (lw_tbl[i]? = some w) && goodWord w) = true) : w ∈ am_wd := by
  simp only [Bool.and_eq_true, decide_eq_true_eq] at h
  exact List.mem_filter.mpr ⟨List.mem_of_getElem? h.1, h.2⟩
theorem am_inN {i : Nat} {w : Cond} (h : (decide (lw_tbl[i]? = some w) && am_isN w) = true) : w ∈ am_nw := by
  simp only [Bool.and_eq_true, decide_eq_true_eq] at h
  exact List.mem_filter.mpr ⟨List.mem_of_getElem? h.1, h.2⟩
theorem am_wd_good {ws : List Cond} (h : ∀ w ∈ ws, w ∈ am_wd) : GoodIn am_wd ws := fun w hw => ⟨h w hw, good_of_word (List.mem_filter.mp (h w hw)).2⟩
def am_cn : Nat → String
  | 0 => RX0 | 1 => RX1 | 2 => RX2 | 3 => RX3 | 4 => RX4 | 5 => RX5 | 6 => RX6 | 7 => RX7 | 8 => RX8 | 9 => RL | 10 => RJ13 | _ => RJ9
def am_tot : am_S → Nat
  | [] => 0
  | q :: r => r.foldr (fun x n => x.2 + n) 0
def am_k (a b : am_S) : Nat := b.length - a.length
def am_n (a b : am_S) : Nat := am_tot b - am_tot a
def am_R (d : Nat) (a b : am_S) : Room := { frames := d, cells := am_k a b, slots := am_n a b, locals := 40 * d + 40 }
/-! locals -/
def am_gl : List (Option Value) → Nat → Option Value
  | [], _ => none
  | x :: _, 0 => x
  | _ :: r, n + 1 => am_gl r n
def am_c2 : Option Value → Bool
  | some (.long _) => true
  | some (.double _) => true
  | _ => false
theorem am_c2_cat {v : Value} : am_c2 (some v) = true ↔ v.category = 2 := by cases v <;> simp [am_c2, Value.category]
def am_s1 : List (Option Value) → Nat → Option Value → List (Option Value)
  | [], _, _ => []
  | _ :: r, 0, v => v :: r
  | x :: r, n + 1, v => cond (Nat.beq n 0 && am_c2 x) none x :: am_s1 r n v
def am_cl : List (Option Value) → Nat → List (Option Value)
  | [], _ => []
  | _ :: r, 0 => none :: r
  | x :: r, n + 1 => x :: am_cl r n
def am_s2 (l : List (Option Value)) (i : Nat) (v : Option Value) : List (Option Value) := am_cl (am_s1 l i v) (i + 1)
theorem am_cl_gl : ∀ (l : List (Option Value)) (i j : Nat) (w : Value), am_gl (am_cl l i) j = some w → j ≠ i ∧ am_gl l j = some w
  | [], i, j, w, h => by simp [am_cl, am_gl] at h
  | x :: r, 0, 0, w, h => by simp [am_cl, am_gl] at h
  | x :: r, 0, j + 1, w, h => ⟨by omega, h⟩
  | x :: r, n + 1, 0, w, h => ⟨by omega, h⟩
  | x :: r, n + 1, j + 1, w, h => by
    obtain ⟨h1, h2⟩ := am_cl_gl r n j w h
    exact ⟨by omega, h2⟩
theorem am_s1_gl : ∀ (l : List (Option Value)) (i : Nat) (v : Option Value) (j : Nat) (w : Value), am_gl (am_s1 l i v) j = some w → (j = i ∧ v = some w) ∨ (j ≠ i ∧ ¬ (j + 1 = i ∧ w.category = 2) ∧ am_gl l j = some w)
  | [], i, v, j, w, h => by simp [am_s1, am_gl] at h
  | x :: r, 0, v, 0, w, h => Or.inl ⟨rfl, h⟩
  | x :: r, 0, v, j + 1, w, h => Or.inr ⟨by omega, by omega, h⟩
  | x :: r, n + 1, v, 0, w, h => by
    have h3 : cond (Nat.beq n 0 && am_c2 x) none x = some w := h
    refine Or.inr ⟨by omega, ?_, ?_⟩
    · rintro ⟨h1, h2⟩
      have : n = 0 := by omega
      subst this
      cases hx : am_c2 x
      · rw [hx] at h3
        have : x = some w := h3
        subst this
        rw [am_c2_cat.mpr h2] at hx
        cases hx
      · rw [hx] at h3
        cases h3
    · show x = some w
      cases hx : (Nat.beq n 0 && am_c2 x) <;> rw [hx] at h3
      · exact h3
      · cases h3
  | x :: r, n + 1, v, j + 1, w, h => by
    rcases am_s1_gl r n v j w h with ⟨h1, h2⟩ | ⟨h1, h2, h3⟩
    · exact Or.inl ⟨by omega, h2⟩
    · exact Or.inr ⟨by omega, fun q => h2 ⟨by omega, q.2⟩, h3⟩
def am_lv (G : am_G) (l : List (Option Value)) : List (Nat × Value) := (List.range l.length).filterMap (fun i => (am_gl l i).map (fun v => (i, am_cv G v)))
theorem am_gl_lt : ∀ (l : List (Option Value)) (i : Nat) (v : Value), am_gl l i = some v → i < l.length
  | [], i, v, h => by simp [am_gl] at h
  | x :: r, 0, v, h => by simp
  | x :: r, n + 1, v, h => by have := am_gl_lt r n v h; simp; omega
theorem am_lv_mem {G : am_G} {l : List (Option Value)} {i : Nat} {v : Value} (h : am_gl l i = some v) : (i, am_cv G v) ∈ am_lv G l :=
  List.mem_filterMap.mpr ⟨i, List.mem_range.mpr (am_gl_lt l i v h), by rw [h]; rfl⟩
theorem am_lv_of {G : am_G} {l : List (Option Value)} {q : Nat × Value} (h : q ∈ am_lv G l) : ∃ v, am_gl l q.1 = some v ∧ q.2 = am_cv G v := by
  obtain ⟨i, -, hi⟩ := List.mem_filterMap.mp h
  cases hv : am_gl l i with
  | none => rw [hv] at hi; cases hi
  | some v => rw [hv] at hi; cases hi; exact ⟨v, hv, rfl⟩
def am_L (G : am_G) (nL : Nat) (l : List (Option Value)) (ls : Array Slot) : Prop := lv_has ls nL (am_lv G l)
theorem am_L.at {G : am_G} {nL : Nat} {l : List (Option Value)} {ls : Array Slot} (h : am_L G nL l ls) {i : Nat} {v : Value} (hv : am_gl l i = some v) : ls[i]? = some (.val (am_cv G v)) := h.2.2 _ (am_lv_mem hv)
theorem am_L.sub {G : am_G} {nL : Nat} {l l' : List (Option Value)} {ls : Array Slot} (h : am_L G nL l ls) (hs : ∀ i v, am_gl l' i = some v → am_gl l i = some v) : am_L G nL l' ls := by
  refine ⟨h.1, h.2.1, fun q hq => ?_⟩
  obtain ⟨v, h1, h2⟩ := am_lv_of hq
  rw [h2]
  exact h.at (hs _ _ h1)
theorem am_cat (G : am_G) (v : Value) : (am_cv G v).category = v.category := by cases v <;> rfl
theorem am_L.of1 {G : am_G} {nL : Nat} {l : List (Option Value)} {ls' : Array Slot} {i : Nat} {v : Value} (h : lv_has ls' nL ((i, am_cv G v) :: (am_lv G l).filter (fun q => !(q.1 == i) && !(q.1 + 1 == i && q.2.category == 2)))) : am_L G nL (am_s1 l i (some v)) ls' := by
  refine ⟨h.1, h.2.1, fun q hq => ?_⟩
  obtain ⟨w, h1, h2⟩ := am_lv_of hq
  obtain ⟨j, x⟩ := q
  dsimp only at h1 h2 ⊢
  subst h2
  rcases am_s1_gl l i (some v) j w h1 with ⟨e1, e2⟩ | ⟨e1, e2, e3⟩
  · cases e2
    subst e1
    exact h.2.2 _ List.mem_cons_self
  · refine h.2.2 (j, am_cv G w) (List.mem_cons_of_mem _ (List.mem_filter.mpr ⟨am_lv_mem e3, ?_⟩))
    simp only [am_cat, Bool.and_eq_true, Bool.not_eq_true', beq_eq_false_iff_ne, ne_eq, Bool.and_eq_false_iff]
    refine ⟨e1, ?_⟩
    by_cases hj : j + 1 = i
    · exact Or.inr (fun q => e2 ⟨hj, q⟩)
    · exact Or.inl hj
theorem am_L.of2 {G : am_G} {nL : Nat} {l : List (Option Value)} {ls' : Array Slot} {i : Nat} {v : Value} (h : lv_has ls' nL ((i, am_cv G v) :: (am_lv G l).filter (fun q => !(q.1 == i) && (!(q.1 == i + 1) && !(q.1 + 1 == i && q.2.category == 2))))) : am_L G nL (am_s2 l i (some v)) ls' := by
  refine ⟨h.1, h.2.1, fun q hq => ?_⟩
  obtain ⟨w, h1, h2⟩ := am_lv_of hq
  obtain ⟨j, x⟩ := q
  dsimp only at h1 h2 ⊢
  subst h2
  obtain ⟨e1, e3⟩ := am_cl_gl _ _ _ _ h1
  rcases am_s1_gl l i (some v) j w e3 with ⟨f1, f2⟩ | ⟨f1, f2, f3⟩
  · cases f2
    subst f1
    exact h.2.2 _ List.mem_cons_self
  · refine h.2.2 (j, am_cv G w) (List.mem_cons_of_mem _ (List.mem_filter.mpr ⟨am_lv_mem f3, ?_⟩))
    simp only [am_cat, Bool.and_eq_true, Bool.not_eq_true', beq_eq_false_iff_ne, ne_eq, Bool.and_eq_false_iff]
    refine ⟨f1, e1, ?_⟩
    by_cases hj : j + 1 = i
    · exact Or.inr (fun q => f2 ⟨hj, q⟩)
    · exact Or.inl hj
/-! a method's start -/
def am_la : List Value → List (Option Value)
  | [] => []
  | .long x :: r => some (.long x) :: none :: am_la r
  | .double x :: r => some (.double x) :: none :: am_la r
  | v :: r => some v :: am_la r
def am_pd : Nat → List (Option Value) → List (Option Value)
  | 0, _ => []
  | n + 1, [] => none :: am_pd n []
  | n + 1, x :: r => x :: am_pd n r
theorem am_pd_gl : ∀ (n : Nat) (l : List (Option Value)) (i : Nat) (v : Value), am_gl (am_pd n l) i = some v → am_gl l i = some v
  | 0, l, i, v, h => by simp [am_pd, am_gl] at h
  | n + 1, [], 0, v, h => by simp [am_pd, am_gl] at h
  | n + 1, [], i + 1, v, h => by
    have := am_pd_gl n [] i v h
    simp [am_gl] at this
  | n + 1, x :: r, 0, v, h => h
  | n + 1, x :: r, i + 1, v, h => am_pd_gl n r i v h
theorem am_la_mem (G : am_G) : ∀ (vs : List Value) (i j : Nat) (v : Value), am_gl (am_la vs) j = some v → (i + j, am_cv G v) ∈ lv_args i (vs.map (am_cv G))
  | [], i, j, v, h => by simp [am_la, am_gl] at h
  | x :: r, i, j, v, h => by
    have two : ∀ (y : Value), y.category = 2 → am_la (y :: r) = some y :: none :: am_la r → am_gl (am_la (y :: r)) j = some v → (i + j, am_cv G v) ∈ lv_args i ((y :: r).map (am_cv G)) := by
      intro y hc e h
      rw [e] at h
      simp only [List.map_cons, lv_args, am_cat, hc, if_true]
      match j, h with
      | 0, h => cases h; exact List.mem_cons_self
      | 1, h => cases h
      | j + 2, h =>
        refine List.mem_cons_of_mem _ ?_
        have := am_la_mem G r (i + 2) j v h
        rw [show i + (j + 2) = i + 2 + j by omega]
        exact this
    have one : ∀ (y : Value), y.category = 1 → am_la (y :: r) = some y :: am_la r → am_gl (am_la (y :: r)) j = some v → (i + j, am_cv G v) ∈ lv_args i ((y :: r).map (am_cv G)) := by
      intro y hc e h
      rw [e] at h
      simp only [List.map_cons, lv_args, am_cat, hc]
      match j, h with
      | 0, h => cases h; exact List.mem_cons_self
      | j + 1, h =>
        refine List.mem_cons_of_mem _ ?_
        have := am_la_mem G r (i + 1) j v h
        rw [show i + (j + 1) = i + 1 + j by omega]
        simpa using this
    cases x <;> first | exact one _ rfl rfl h | exact two _ rfl rfl h
def am_sz : List Value → Nat
  | [] => 0
  | .long _ :: r => am_sz r + 2
  | .double _ :: r => am_sz r + 2
  | _ :: r => am_sz r + 1
theorem am_sz_ok (G : am_G) : ∀ vs : List Value, (lg_sl (vs.map (am_cv G))).length = am_sz vs
  | [] => rfl
  | x :: r => by
    have ih := am_sz_ok G r
    cases x <;> simp [lg_sl, am_sz, am_cv, Value.category] at ih ⊢ <;> omega

/-! the judgement -/
def am_C (X : am_me) (d kF nF n0 : Nat) (p : Program) (R : Room) (s : State) (m : MethodId) (args : Array Value) (meth : Method) (c : Code) (G : am_G) : Prop :=
  p.tables.exec = Jvm.exec ∧ c.code = X.2.2.1 ∧ c.maxLocals = X.2.2.2.1 ∧ s.vm.findClass (am_cn X.1) = some m.cls ∧ (∀ w ∈ am_wd, w.before args s = true) ∧ am_N s ∧ G.2.1 < s.heap.size ∧ d ≤ R.frames ∧ 40 * d + 40 ≤ R.locals ∧ kF ≤ R.cells ∧ nF ≤ R.slots ∧ (X.2.1.name = "<init>" → meth.name = "<init>") ∧ s.heap.size = G.2.1 + n0
/-- an answer, and the instruction that gives it -/
def am_rt (rt : Option FieldType) : Option Value → Instr → Prop
  | none, ins => rt = none ∧ ins = .return_
  | some (.int x), ins => ins = .ireturn ∧ ∃ ty, rt = some ty ∧ narrow ty (.int x) = .int x
  | some (.long _), ins => ins = .lreturn ∧ rt = some .long
  | some (.ref _), ins => ins = .areturn ∧ ∃ C, rt = some (.object C)
  | some .null, ins => ins = .areturn ∧ ∃ C, rt = some (.object C)
  | _, _ => False
def am_Z (X : am_me) (sh0 shF : am_S) (Q : Option Value → am_M → Prop) (p : Program) (la : Launch) (e : Env) (R : Room) (s : State) (m : MethodId) (args : Array Value) (below : List Frame) (meth : Method) (c : Code) (G : am_G) (Z : State → Prop) : Prop :=
  ∀ (v : Option Value) (M : am_M) (H : Heap) (locs : List Loc) (pc : Nat) (ls : Array Slot) (ins : Instr), am_rt X.2.2.2.2.1 v ins → decode X.2.2.1 pc = .ok (ins, 1) → Q v M → am_W G shF M s H → va_S (am_A G) s.heap H locs →
    W p la e R s m args below meth c H locs (am_k sh0 shF) (am_n sh0 shF) Z (F0 m pc ls (v.toList.map (am_cv G)))
def am_Ev (X : am_me) (d : Nat) (sh0 shF : am_S) (pc : Nat) (l : List (Option Value)) (st : List Value) (sh : am_S) (M : am_M) (Q : Option Value → am_M → Prop) : Prop :=
  ∀ (p : Program) (la : Launch) (e : Env) (R : Room) (s : State) (m : MethodId) (args : Array Value) (below : List Frame) (meth : Method) (c : Code) (G : am_G) (Z : State → Prop),
    am_C X d (am_k sh0 shF) (am_n sh0 shF) sh0.length p R s m args meth c G → am_Z X sh0 shF Q p la e R s m args below meth c G Z →
    ∀ (ls : Array Slot) (H : Heap) (locs : List Loc), am_L G X.2.2.2.1 l ls → am_W G sh M s H → va_S (am_A G) s.heap H locs →
      W p la e R s m args below meth c H locs (am_k sh0 sh) (am_n sh0 sh) Z (F0 m pc ls (st.map (am_cv G)))
def am_Q (G : am_G) (shF : am_S) (Q : Option Value → am_M → Prop) : Array Value → State → Outcome → State → Prop := fun _ st o t =>
  (∃ (v : Option Value) (M : am_M), Q v M ∧ o = .returned (v.map (am_cv G)) ∧ am_W G shF M t t.heap) ∧ va_F (am_A G) st t
def am_Mt (d : Nat) (X : am_me) (As : List Value) (sh shF : am_S) (M : am_M) (Q : Option Value → am_M → Prop) : Prop :=
  ∀ (l : Launch) (G : am_G), Met l X.2.1 (Cond.code X.2.1 X.2.2.1 X.2.2.2.1 X.2.2.2.2.1 :: am_wd) (am_R d sh shF) (va_Pc (As.map (am_cv G)) (fun U => am_W G sh M U U.heap ∧ am_N U)) (am_Q G shF Q) (am_k sh shF) (am_n sh shF) (am_A G)
theorem am_W.size {G : am_G} {sh : am_S} {M : am_M} {s : State} {H : Heap} (h : am_W G sh M s H) : G.2.1 < H.size := by
  obtain ⟨-, h2, -, -, L, h5, -⟩ := h
  have := am_nt_lt h5
  omega
theorem am_enter {X : am_me} {d : Nat} {As : List Value} {sh shF : am_S} {M : am_M} {Q : Option Value → am_M → Prop} (l0 : List (Option Value)) (hl0 : am_pd X.2.2.2.1 (am_la As) = l0) (hy : plainName X.2.1.cls = true) (hc : am_cn X.1 = X.2.1.cls) (hz : Nat.ble (am_sz As) X.2.2.2.1 = true)
    (h : am_Ev X d sh shF 0 l0 [] sh M Q) : am_Mt d X As sh shF M Q := by
  intro l G
  refine Met.ofW (cc := X.2.2.1) (maxL := X.2.2.2.1) (ret := X.2.2.2.2.1) hy rfl ?_
  intro p e s m args below meth c s₁ B hml hv
  obtain ⟨hav, hW, hN⟩ := hv
  have hts := atoms_spec B.pre
  have hin : meth.name = X.2.1.name := (name_of_methodNamed B.named B.method).1
  have hC : am_C X d (am_k sh shF) (am_n sh shF) sh.length p (headSpec (Cond.code X.2.1 X.2.2.1 X.2.2.2.1 X.2.2.2.2.1 :: am_wd) (am_R d sh shF)).room s m args meth c G :=
    ⟨B.exec, B.bytes, hml, by rw [hc]; exact findClass_of_methodNamed B.named, fun w hw => hts w (List.mem_cons_of_mem _ hw), hN, hW.size, Nat.le_refl _, Nat.le_refl _, Nat.le_refl _, Nat.le_refl _, fun q => by rw [hin]; exact q, hW.2.1⟩
  have hlk := B.notSynchronized
  have hr := B.returns
  have hZ : am_Z X sh shF Q p l e (headSpec (Cond.code X.2.1 X.2.2.1 X.2.2.2.1 X.2.2.2.2.1 :: am_wd) (am_R d sh shF)).room s m args below meth c G (MQ below (am_Q G shF Q) args s (am_k sh shF) (am_n sh shF) (am_A G)) := by
    intro v M1 H locs pc ls ins hrt hdg hq hW1 hS
    have hend : ∀ t : State, t.heap = H → s.WarmedH t.vm → am_Q G shF Q args s (.returned (v.map (am_cv G))) t := fun t ht hWt => ⟨⟨v, M1, hq, rfl, by rw [ht]; exact hW1.moved hWt.alike⟩, hS.F ht⟩
    match v, hrt, hend with
    | none, hrt, hend =>
      obtain ⟨h1, rfl⟩ := hrt
      exact W.vret B.exec B.bytes (by rw [hr, h1]) hend hS.2.2 hdg
    | some (.int x), hrt, hend =>
      obtain ⟨rfl, ty, h1, h2⟩ := hrt
      exact W.zret B.exec B.bytes (by rw [hr, h1]) h2 hend hS.2.2 hdg
    | some (.long x), hrt, hend =>
      obtain ⟨rfl, h1⟩ := hrt
      exact W.lret B.exec B.bytes (by rw [hr, h1]) hend hS.2.2 hdg
    | some (.ref x), hrt, hend =>
      obtain ⟨rfl, C, h1⟩ := hrt
      exact W.aret B.exec B.bytes (by rw [hr, h1]) (Or.inl ⟨C, rfl⟩) (Or.inr ⟨_, rfl⟩) hend hS.2.2 hdg
    | some .null, hrt, hend =>
      obtain ⟨rfl, C, h1⟩ := hrt
      exact W.aret B.exec B.bytes (by rw [hr, h1]) (Or.inl ⟨C, rfl⟩) (Or.inl rfl) hend hS.2.2 hdg
    | some (.float x), hrt, hend => exact hrt.elim
    | some (.double x), hrt, hend => exact hrt.elim
  have e1 : (lg_sl (As.map (am_cv G))).length ≤ X.2.2.2.1 := by
    rw [am_sz_ok]
    exact Nat.le_of_ble_eq_true hz
  have hl := lv_entry (As.map (am_cv G)) (n := X.2.2.2.1) e1
  rw [hav, lg_entry_eq]
  rw [← hav]
  have hL : am_L G X.2.2.2.1 l0 ((lg_sl (As.map (am_cv G)) ++ List.replicate (X.2.2.2.1 - (lg_sl (As.map (am_cv G))).length) Slot.unset).toArray) := by
    refine ⟨hl.1, hl.2.1, fun q hq => ?_⟩
    obtain ⟨v, h1, h2⟩ := am_lv_of hq
    rw [← hl0] at h1
    have h3 := am_la_mem G As 0 q.1 v (am_pd_gl _ _ _ _ h1)
    rw [Nat.zero_add] at h3
    rw [h2]
    exact hl.2.2 _ h3
  have hgo := h p l e _ s m args below meth c G _ hC hZ _ s.heap [] hL hW va_S.rf
  have z1 : am_k sh sh = 0 := by simp [am_k]
  have z2 : am_n sh sh = 0 := by simp [am_n]
  rw [z1, z2] at hgo
  exact hgo

section AMR
variable {X : am_me} {d : Nat} {sh0 shF sh : am_S} {pc : Nat} {l : List (Option Value)} {st : List Value} {M : am_M} {Q : Option Value → am_M → Prop}
theorem ev_iconst {n : Int} {v : Int32} (hd : decode X.2.2.1 pc = .ok (.iconst n, 1)) (hv : Int32.ofInt n = v) (h : am_Ev X d sh0 shF (pc + 1) l (.int v :: st) sh M Q) : am_Ev X d sh0 shF pc l (st) sh M Q := by
  intro p la e R s m args below meth c G Z C HZ ls H locs hL hW hS
  exact lv_iconst C.1 C.2.1 hd hv (h p la e R s m args below meth c G Z C HZ ls H locs hL hW hS)
theorem ev_bipush {n : Int} {v : Int32} (hd : decode X.2.2.1 pc = .ok (.bipush n, 2)) (hv : (Int8.ofInt n).toInt32 = v) (h : am_Ev X d sh0 shF (pc + 2) l (.int v :: st) sh M Q) : am_Ev X d sh0 shF pc l (st) sh M Q := by
  intro p la e R s m args below meth c G Z C HZ ls H locs hL hW hS
  exact lv_bipush C.1 C.2.1 hd hv (h p la e R s m args below meth c G Z C HZ ls H locs hL hW hS)
theorem ev_sipush {n : Int} {v : Int32} (hd : decode X.2.2.1 pc = .ok (.sipush n, 3)) (hv : (Int16.ofInt n).toInt32 = v) (h : am_Ev X d sh0 shF (pc + 3) l (.int v :: st) sh M Q) : am_Ev X d sh0 shF pc l (st) sh M Q := by
  intro p la e R s m args below meth c G Z C HZ ls H locs hL hW hS
  exact lv_sipush C.1 C.2.1 hd hv (h p la e R s m args below meth c G Z C HZ ls H locs hL hW hS)
theorem ev_lconst {n : Fin 2} {v : Int64} (hd : decode X.2.2.1 pc = .ok (.lconst n, 1)) (hv : Int64.ofNat (n : Nat) = v) (h : am_Ev X d sh0 shF (pc + 1) l (.long v :: st) sh M Q) : am_Ev X d sh0 shF pc l (st) sh M Q := by
  intro p la e R s m args below meth c G Z C HZ ls H locs hL hW hS
  exact lv_lconst C.1 C.2.1 hd hv (h p la e R s m args below meth c G Z C HZ ls H locs hL hW hS)
theorem ev_null (hd : decode X.2.2.1 pc = .ok (.aconst_null, 1)) (h : am_Ev X d sh0 shF (pc + 1) l (.null :: st) sh M Q) : am_Ev X d sh0 shF pc l (st) sh M Q := by
  intro p la e R s m args below meth c G Z C HZ ls H locs hL hW hS
  exact lv_null C.1 C.2.1 hd (h p la e R s m args below meth c G Z C HZ ls H locs hL hW hS)
theorem ev_iadd {x y : Int32} (hd : decode X.2.2.1 pc = .ok (.iadd, 1)) (h : am_Ev X d sh0 shF (pc + 1) l (.int (x + y) :: st) sh M Q) : am_Ev X d sh0 shF pc l (.int y :: .int x :: st) sh M Q := by
  intro p la e R s m args below meth c G Z C HZ ls H locs hL hW hS
  exact lv_iadd C.1 C.2.1 hd (h p la e R s m args below meth c G Z C HZ ls H locs hL hW hS)
theorem ev_isub {x y : Int32} (hd : decode X.2.2.1 pc = .ok (.isub, 1)) (h : am_Ev X d sh0 shF (pc + 1) l (.int (x - y) :: st) sh M Q) : am_Ev X d sh0 shF pc l (.int y :: .int x :: st) sh M Q := by
  intro p la e R s m args below meth c G Z C HZ ls H locs hL hW hS
  exact lv_isub C.1 C.2.1 hd (h p la e R s m args below meth c G Z C HZ ls H locs hL hW hS)
theorem ev_imul {x y : Int32} (hd : decode X.2.2.1 pc = .ok (.imul, 1)) (h : am_Ev X d sh0 shF (pc + 1) l (.int (x * y) :: st) sh M Q) : am_Ev X d sh0 shF pc l (.int y :: .int x :: st) sh M Q := by
  intro p la e R s m args below meth c G Z C HZ ls H locs hL hW hS
  exact lv_imul C.1 C.2.1 hd (h p la e R s m args below meth c G Z C HZ ls H locs hL hW hS)
theorem ev_iand {x y : Int32} (hd : decode X.2.2.1 pc = .ok (.iand, 1)) (h : am_Ev X d sh0 shF (pc + 1) l (.int (x &&& y) :: st) sh M Q) : am_Ev X d sh0 shF pc l (.int y :: .int x :: st) sh M Q := by
  intro p la e R s m args below meth c G Z C HZ ls H locs hL hW hS
  exact lv_iand C.1 C.2.1 hd (h p la e R s m args below meth c G Z C HZ ls H locs hL hW hS)
theorem ev_ior {x y : Int32} (hd : decode X.2.2.1 pc = .ok (.ior, 1)) (h : am_Ev X d sh0 shF (pc + 1) l (.int (x ||| y) :: st) sh M Q) : am_Ev X d sh0 shF pc l (.int y :: .int x :: st) sh M Q := by
  intro p la e R s m args below meth c G Z C HZ ls H locs hL hW hS
  exact lv_ior C.1 C.2.1 hd (h p la e R s m args below meth c G Z C HZ ls H locs hL hW hS)
theorem ev_ixor {x y : Int32} (hd : decode X.2.2.1 pc = .ok (.ixor, 1)) (h : am_Ev X d sh0 shF (pc + 1) l (.int (x ^^^ y) :: st) sh M Q) : am_Ev X d sh0 shF pc l (.int y :: .int x :: st) sh M Q := by
  intro p la e R s m args below meth c G Z C HZ ls H locs hL hW hS
  exact lv_ixor C.1 C.2.1 hd (h p la e R s m args below meth c G Z C HZ ls H locs hL hW hS)
theorem ev_ishl {x y : Int32} (hd : decode X.2.2.1 pc = .ok (.ishl, 1)) (h : am_Ev X d sh0 shF (pc + 1) l (.int (x <<< (y &&& 31)) :: st) sh M Q) : am_Ev X d sh0 shF pc l (.int y :: .int x :: st) sh M Q := by
  intro p la e R s m args below meth c G Z C HZ ls H locs hL hW hS
  exact lv_ishl C.1 C.2.1 hd (h p la e R s m args below meth c G Z C HZ ls H locs hL hW hS)
theorem ev_ishr {x y : Int32} (hd : decode X.2.2.1 pc = .ok (.ishr, 1)) (h : am_Ev X d sh0 shF (pc + 1) l (.int (x >>> (y &&& 31)) :: st) sh M Q) : am_Ev X d sh0 shF pc l (.int y :: .int x :: st) sh M Q := by
  intro p la e R s m args below meth c G Z C HZ ls H locs hL hW hS
  exact lv_ishr C.1 C.2.1 hd (h p la e R s m args below meth c G Z C HZ ls H locs hL hW hS)
theorem ev_ladd {x y : Int64} (hd : decode X.2.2.1 pc = .ok (.ladd, 1)) (h : am_Ev X d sh0 shF (pc + 1) l (.long (x + y) :: st) sh M Q) : am_Ev X d sh0 shF pc l (.long y :: .long x :: st) sh M Q := by
  intro p la e R s m args below meth c G Z C HZ ls H locs hL hW hS
  exact lv_ladd C.1 C.2.1 hd (h p la e R s m args below meth c G Z C HZ ls H locs hL hW hS)
theorem ev_lsub {x y : Int64} (hd : decode X.2.2.1 pc = .ok (.lsub, 1)) (h : am_Ev X d sh0 shF (pc + 1) l (.long (x - y) :: st) sh M Q) : am_Ev X d sh0 shF pc l (.long y :: .long x :: st) sh M Q := by
  intro p la e R s m args below meth c G Z C HZ ls H locs hL hW hS
  exact lv_lsub C.1 C.2.1 hd (h p la e R s m args below meth c G Z C HZ ls H locs hL hW hS)
theorem ev_land {x y : Int64} (hd : decode X.2.2.1 pc = .ok (.land, 1)) (h : am_Ev X d sh0 shF (pc + 1) l (.long (x &&& y) :: st) sh M Q) : am_Ev X d sh0 shF pc l (.long y :: .long x :: st) sh M Q := by
  intro p la e R s m args below meth c G Z C HZ ls H locs hL hW hS
  exact lv_land C.1 C.2.1 hd (h p la e R s m args below meth c G Z C HZ ls H locs hL hW hS)
theorem ev_lor {x y : Int64} (hd : decode X.2.2.1 pc = .ok (.lor, 1)) (h : am_Ev X d sh0 shF (pc + 1) l (.long (x ||| y) :: st) sh M Q) : am_Ev X d sh0 shF pc l (.long y :: .long x :: st) sh M Q := by
  intro p la e R s m args below meth c G Z C HZ ls H locs hL hW hS
  exact lv_lor C.1 C.2.1 hd (h p la e R s m args below meth c G Z C HZ ls H locs hL hW hS)
theorem ev_lxor {x y : Int64} (hd : decode X.2.2.1 pc = .ok (.lxor, 1)) (h : am_Ev X d sh0 shF (pc + 1) l (.long (x ^^^ y) :: st) sh M Q) : am_Ev X d sh0 shF pc l (.long y :: .long x :: st) sh M Q := by
  intro p la e R s m args below meth c G Z C HZ ls H locs hL hW hS
  exact lv_lxor C.1 C.2.1 hd (h p la e R s m args below meth c G Z C HZ ls H locs hL hW hS)
theorem ev_lcmp {x y : Int64} (hd : decode X.2.2.1 pc = .ok (.lcmp, 1)) (h : am_Ev X d sh0 shF (pc + 1) l (.int (lg_cmp x y) :: st) sh M Q) : am_Ev X d sh0 shF pc l (.long y :: .long x :: st) sh M Q := by
  intro p la e R s m args below meth c G Z C HZ ls H locs hL hW hS
  exact W.lcmp C.1 C.2.1 hd (h p la e R s m args below meth c G Z C HZ ls H locs hL hW hS)
theorem ev_lushr {x : Int64} {y : Int32} (hd : decode X.2.2.1 pc = .ok (.lushr, 1)) (h : am_Ev X d sh0 shF (pc + 1) l (.long ((x.toUInt64 >>> (y.toInt64.toUInt64 &&& Int64.toUInt64 63)).toInt64) :: st) sh M Q) : am_Ev X d sh0 shF pc l (.int y :: .long x :: st) sh M Q := by
  intro p la e R s m args below meth c G Z C HZ ls H locs hL hW hS
  exact lv_lushr C.1 C.2.1 hd rfl (h p la e R s m args below meth c G Z C HZ ls H locs hL hW hS)
theorem ev_lshl {x : Int64} {y : Int32} (hd : decode X.2.2.1 pc = .ok (.lshl, 1)) (h : am_Ev X d sh0 shF (pc + 1) l (.long (x <<< (y.toInt64 &&& 63)) :: st) sh M Q) : am_Ev X d sh0 shF pc l (.int y :: .long x :: st) sh M Q := by
  intro p la e R s m args below meth c G Z C HZ ls H locs hL hW hS
  exact lv_lshl C.1 C.2.1 hd rfl (h p la e R s m args below meth c G Z C HZ ls H locs hL hW hS)
theorem ev_lshr {x : Int64} {y : Int32} (hd : decode X.2.2.1 pc = .ok (.lshr, 1)) (h : am_Ev X d sh0 shF (pc + 1) l (.long (x >>> (y.toInt64 &&& 63)) :: st) sh M Q) : am_Ev X d sh0 shF pc l (.int y :: .long x :: st) sh M Q := by
  intro p la e R s m args below meth c G Z C HZ ls H locs hL hW hS
  exact lv_lshr C.1 C.2.1 hd rfl (h p la e R s m args below meth c G Z C HZ ls H locs hL hW hS)
theorem ev_i2l {x : Int32} (hd : decode X.2.2.1 pc = .ok (.i2l, 1)) (h : am_Ev X d sh0 shF (pc + 1) l (.long x.toInt64 :: st) sh M Q) : am_Ev X d sh0 shF pc l (.int x :: st) sh M Q := by
  intro p la e R s m args below meth c G Z C HZ ls H locs hL hW hS
  exact lv_i2l C.1 C.2.1 hd rfl (h p la e R s m args below meth c G Z C HZ ls H locs hL hW hS)
theorem ev_l2i {x : Int64} (hd : decode X.2.2.1 pc = .ok (.l2i, 1)) (h : am_Ev X d sh0 shF (pc + 1) l (.int x.toInt32 :: st) sh M Q) : am_Ev X d sh0 shF pc l (.long x :: st) sh M Q := by
  intro p la e R s m args below meth c G Z C HZ ls H locs hL hW hS
  exact lv_l2i C.1 C.2.1 hd rfl (h p la e R s m args below meth c G Z C HZ ls H locs hL hW hS)
theorem ev_dup {v : Value} (hd : decode X.2.2.1 pc = .ok (.dup, 1)) (hc : v.category = 1) (h : am_Ev X d sh0 shF (pc + 1) l (v :: v :: st) sh M Q) : am_Ev X d sh0 shF pc l (v :: st) sh M Q := by
  intro p la e R s m args below meth c G Z C HZ ls H locs hL hW hS
  exact lv_dup C.1 C.2.1 hd (by rw [am_cat]; exact hc) (h p la e R s m args below meth c G Z C HZ ls H locs hL hW hS)
theorem ev_dup2 {v w : Value} (hd : decode X.2.2.1 pc = .ok (.dup2, 1)) (hc : v.category = 1) (hc2 : w.category = 1) (h : am_Ev X d sh0 shF (pc + 1) l (v :: w :: v :: w :: st) sh M Q) : am_Ev X d sh0 shF pc l (v :: w :: st) sh M Q := by
  intro p la e R s m args below meth c G Z C HZ ls H locs hL hW hS
  exact lv_dup2_11 C.1 C.2.1 hd (by rw [am_cat]; exact hc) (by rw [am_cat]; exact hc2) (h p la e R s m args below meth c G Z C HZ ls H locs hL hW hS)
theorem ev_pop {v : Value} (hd : decode X.2.2.1 pc = .ok (.pop, 1)) (hc : v.category = 1) (h : am_Ev X d sh0 shF (pc + 1) l (st) sh M Q) : am_Ev X d sh0 shF pc l (v :: st) sh M Q := by
  intro p la e R s m args below meth c G Z C HZ ls H locs hL hW hS
  exact lv_pop C.1 C.2.1 hd (by rw [am_cat]; exact hc) (h p la e R s m args below meth c G Z C HZ ls H locs hL hW hS)
theorem ev_iload_n {k : Fin 4} {x : Int32} (hd : decode X.2.2.1 pc = .ok (.iload_n k, 1)) (hv : am_gl l k.val = some (.int x)) (h : am_Ev X d sh0 shF (pc + 1) l (.int x :: st) sh M Q) : am_Ev X d sh0 shF pc l (st) sh M Q := by
  intro p la e R s m args below meth c G Z C HZ ls H locs hL hW hS
  exact lv_iload_n C.1 C.2.1 hd rfl (hL.at hv) (h p la e R s m args below meth c G Z C HZ ls H locs hL hW hS)
theorem ev_iload {i : Nat} {x : Int32} (hd : decode X.2.2.1 pc = .ok (.iload i, 2)) (hv : am_gl l i = some (.int x)) (h : am_Ev X d sh0 shF (pc + 2) l (.int x :: st) sh M Q) : am_Ev X d sh0 shF pc l (st) sh M Q := by
  intro p la e R s m args below meth c G Z C HZ ls H locs hL hW hS
  exact lv_iload C.1 C.2.1 hd (hL.at hv) (h p la e R s m args below meth c G Z C HZ ls H locs hL hW hS)
theorem ev_lload_n {k : Fin 4} {x : Int64} (hd : decode X.2.2.1 pc = .ok (.lload_n k, 1)) (hv : am_gl l k.val = some (.long x)) (h : am_Ev X d sh0 shF (pc + 1) l (.long x :: st) sh M Q) : am_Ev X d sh0 shF pc l (st) sh M Q := by
  intro p la e R s m args below meth c G Z C HZ ls H locs hL hW hS
  exact lv_lload_n C.1 C.2.1 hd rfl (hL.at hv) (h p la e R s m args below meth c G Z C HZ ls H locs hL hW hS)
theorem ev_lload {i : Nat} {x : Int64} (hd : decode X.2.2.1 pc = .ok (.lload i, 2)) (hv : am_gl l i = some (.long x)) (h : am_Ev X d sh0 shF (pc + 2) l (.long x :: st) sh M Q) : am_Ev X d sh0 shF pc l (st) sh M Q := by
  intro p la e R s m args below meth c G Z C HZ ls H locs hL hW hS
  exact lv_lload C.1 C.2.1 hd (hL.at hv) (h p la e R s m args below meth c G Z C HZ ls H locs hL hW hS)
theorem ev_aload_n {k : Fin 4} {x : Nat} (hd : decode X.2.2.1 pc = .ok (.aload_n k, 1)) (hv : am_gl l k.val = some (.ref x)) (h : am_Ev X d sh0 shF (pc + 1) l (.ref x :: st) sh M Q) : am_Ev X d sh0 shF pc l (st) sh M Q := by
  intro p la e R s m args below meth c G Z C HZ ls H locs hL hW hS
  exact lv_aload_n C.1 C.2.1 hd rfl (hL.at hv) (h p la e R s m args below meth c G Z C HZ ls H locs hL hW hS)
theorem ev_aload {i : Nat} {x : Nat} (hd : decode X.2.2.1 pc = .ok (.aload i, 2)) (hv : am_gl l i = some (.ref x)) (h : am_Ev X d sh0 shF (pc + 2) l (.ref x :: st) sh M Q) : am_Ev X d sh0 shF pc l (st) sh M Q := by
  intro p la e R s m args below meth c G Z C HZ ls H locs hL hW hS
  exact lv_aload C.1 C.2.1 hd (hL.at hv) (h p la e R s m args below meth c G Z C HZ ls H locs hL hW hS)
theorem ev_istore_n {k : Fin 4} {x : Int32} (hd : decode X.2.2.1 pc = .ok (.istore_n k, 1)) (hi : Nat.blt (k.val) X.2.2.2.1 = true) (h : am_Ev X d sh0 shF (pc + 1) (am_s1 l k.val (some (.int x))) st sh M Q) : am_Ev X d sh0 shF pc l (.int x :: st) sh M Q := by
  intro p la e R s m args below meth c G Z C HZ ls H locs hL hW hS
  exact lv_istore_n C.1 C.2.1 hd rfl hL (by simpa using hi) rfl (fun ls1 hL1 => h p la e R s m args below meth c G Z C HZ ls1 H locs (am_L.of1 (v := .int x) hL1) hW hS)
theorem ev_istore {i : Nat} {x : Int32} (hd : decode X.2.2.1 pc = .ok (.istore i, 2)) (hi : Nat.blt (i) X.2.2.2.1 = true) (h : am_Ev X d sh0 shF (pc + 2) (am_s1 l i (some (.int x))) st sh M Q) : am_Ev X d sh0 shF pc l (.int x :: st) sh M Q := by
  intro p la e R s m args below meth c G Z C HZ ls H locs hL hW hS
  exact lv_istore C.1 C.2.1 hd hL (by simpa using hi) rfl (fun ls1 hL1 => h p la e R s m args below meth c G Z C HZ ls1 H locs (am_L.of1 (v := .int x) hL1) hW hS)
theorem ev_astore_n {k : Fin 4} {x : Nat} (hd : decode X.2.2.1 pc = .ok (.astore_n k, 1)) (hi : Nat.blt (k.val) X.2.2.2.1 = true) (h : am_Ev X d sh0 shF (pc + 1) (am_s1 l k.val (some (.ref x))) st sh M Q) : am_Ev X d sh0 shF pc l (.ref x :: st) sh M Q := by
  intro p la e R s m args below meth c G Z C HZ ls H locs hL hW hS
  exact lv_astore_n C.1 C.2.1 hd rfl hL (by simpa using hi) rfl (fun ls1 hL1 => h p la e R s m args below meth c G Z C HZ ls1 H locs (am_L.of1 (v := .ref x) hL1) hW hS)
theorem ev_astore {i : Nat} {x : Nat} (hd : decode X.2.2.1 pc = .ok (.astore i, 2)) (hi : Nat.blt (i) X.2.2.2.1 = true) (h : am_Ev X d sh0 shF (pc + 2) (am_s1 l i (some (.ref x))) st sh M Q) : am_Ev X d sh0 shF pc l (.ref x :: st) sh M Q := by
  intro p la e R s m args below meth c G Z C HZ ls H locs hL hW hS
  exact lv_astore C.1 C.2.1 hd hL (by simpa using hi) rfl (fun ls1 hL1 => h p la e R s m args below meth c G Z C HZ ls1 H locs (am_L.of1 (v := .ref x) hL1) hW hS)
theorem ev_lstore_n {k : Fin 4} {x : Int64} (hd : decode X.2.2.1 pc = .ok (.lstore_n k, 1)) (hi : Nat.blt (k.val + 1) X.2.2.2.1 = true) (h : am_Ev X d sh0 shF (pc + 1) (am_s2 l k.val (some (.long x))) st sh M Q) : am_Ev X d sh0 shF pc l (.long x :: st) sh M Q := by
  intro p la e R s m args below meth c G Z C HZ ls H locs hL hW hS
  exact lv_lstore_n C.1 C.2.1 hd rfl hL (by simpa using hi) rfl (fun ls1 hL1 => h p la e R s m args below meth c G Z C HZ ls1 H locs (am_L.of2 (v := .long x) hL1) hW hS)
theorem ev_lstore {i : Nat} {x : Int64} (hd : decode X.2.2.1 pc = .ok (.lstore i, 2)) (hi : Nat.blt (i + 1) X.2.2.2.1 = true) (h : am_Ev X d sh0 shF (pc + 2) (am_s2 l i (some (.long x))) st sh M Q) : am_Ev X d sh0 shF pc l (.long x :: st) sh M Q := by
  intro p la e R s m args below meth c G Z C HZ ls H locs hL hW hS
  exact lv_lstore C.1 C.2.1 hd hL (by simpa using hi) rfl (fun ls1 hL1 => h p la e R s m args below meth c G Z C HZ ls1 H locs (am_L.of2 (v := .long x) hL1) hW hS)
theorem ev_iinc {i : Nat} {n : Int} {x v : Int32} (hd : decode X.2.2.1 pc = .ok (.iinc i n, 3)) (hx : am_gl l i = some (.int x)) (hv : x + Int32.ofInt n = v) (hi : Nat.blt i X.2.2.2.1 = true) (h : am_Ev X d sh0 shF (pc + 3) (am_s1 l i (some (.int v))) st sh M Q) : am_Ev X d sh0 shF pc l st sh M Q := by
  intro p la e R s m args below meth c G Z C HZ ls H locs hL hW hS
  obtain ⟨k, hk⟩ := List.getElem?_of_mem (am_lv_mem (G := G) hx)
  exact lv_iinc C.1 C.2.1 hd hL hk hv (by simpa using hi) rfl (fun ls1 hL1 => h p la e R s m args below meth c G Z C HZ ls1 H locs (am_L.of1 (v := .int v) hL1) hW hS)
theorem ev_if_eq {x : Int32} {off : Int} (tgt : Nat) (hd : decode X.2.2.1 pc = .ok (.ifCond .eq off, 3)) (ht : (pc : Int) + off = (tgt : Int)) (kt : x = 0 → am_Ev X d sh0 shF tgt l st sh M Q) (kf : ¬ x = 0 → am_Ev X d sh0 shF (pc + 3) l st sh M Q) : am_Ev X d sh0 shF pc l (.int x :: st) sh M Q := by
  intro p la e R s m args below meth c G Z C HZ ls H locs hL hW hS
  exact lv_if_eq C.1 C.2.1 hd ht (fun q => kt q p la e R s m args below meth c G Z C HZ ls H locs hL hW hS) (fun q => kf q p la e R s m args below meth c G Z C HZ ls H locs hL hW hS)
theorem ev_icmp_eq {x y : Int32} {off : Int} (tgt : Nat) (hd : decode X.2.2.1 pc = .ok (.if_icmp .eq off, 3)) (ht : (pc : Int) + off = (tgt : Int)) (kt : x = y → am_Ev X d sh0 shF tgt l st sh M Q) (kf : ¬ x = y → am_Ev X d sh0 shF (pc + 3) l st sh M Q) : am_Ev X d sh0 shF pc l (.int y :: .int x :: st) sh M Q := by
  intro p la e R s m args below meth c G Z C HZ ls H locs hL hW hS
  exact lv_icmp_eq C.1 C.2.1 hd ht (fun q => kt q p la e R s m args below meth c G Z C HZ ls H locs hL hW hS) (fun q => kf q p la e R s m args below meth c G Z C HZ ls H locs hL hW hS)
theorem ev_if_ne {x : Int32} {off : Int} (tgt : Nat) (hd : decode X.2.2.1 pc = .ok (.ifCond .ne off, 3)) (ht : (pc : Int) + off = (tgt : Int)) (kt : ¬ x = 0 → am_Ev X d sh0 shF tgt l st sh M Q) (kf : x = 0 → am_Ev X d sh0 shF (pc + 3) l st sh M Q) : am_Ev X d sh0 shF pc l (.int x :: st) sh M Q := by
  intro p la e R s m args below meth c G Z C HZ ls H locs hL hW hS
  exact lv_if_ne C.1 C.2.1 hd ht (fun q => kt q p la e R s m args below meth c G Z C HZ ls H locs hL hW hS) (fun q => kf q p la e R s m args below meth c G Z C HZ ls H locs hL hW hS)
theorem ev_icmp_ne {x y : Int32} {off : Int} (tgt : Nat) (hd : decode X.2.2.1 pc = .ok (.if_icmp .ne off, 3)) (ht : (pc : Int) + off = (tgt : Int)) (kt : ¬ x = y → am_Ev X d sh0 shF tgt l st sh M Q) (kf : x = y → am_Ev X d sh0 shF (pc + 3) l st sh M Q) : am_Ev X d sh0 shF pc l (.int y :: .int x :: st) sh M Q := by
  intro p la e R s m args below meth c G Z C HZ ls H locs hL hW hS
  exact lv_icmp_ne C.1 C.2.1 hd ht (fun q => kt q p la e R s m args below meth c G Z C HZ ls H locs hL hW hS) (fun q => kf q p la e R s m args below meth c G Z C HZ ls H locs hL hW hS)
theorem ev_if_lt {x : Int32} {off : Int} (tgt : Nat) (hd : decode X.2.2.1 pc = .ok (.ifCond .lt off, 3)) (ht : (pc : Int) + off = (tgt : Int)) (kt : x < 0 → am_Ev X d sh0 shF tgt l st sh M Q) (kf : ¬ x < 0 → am_Ev X d sh0 shF (pc + 3) l st sh M Q) : am_Ev X d sh0 shF pc l (.int x :: st) sh M Q := by
  intro p la e R s m args below meth c G Z C HZ ls H locs hL hW hS
  exact lv_if_lt C.1 C.2.1 hd ht (fun q => kt q p la e R s m args below meth c G Z C HZ ls H locs hL hW hS) (fun q => kf q p la e R s m args below meth c G Z C HZ ls H locs hL hW hS)
theorem ev_icmp_lt {x y : Int32} {off : Int} (tgt : Nat) (hd : decode X.2.2.1 pc = .ok (.if_icmp .lt off, 3)) (ht : (pc : Int) + off = (tgt : Int)) (kt : x < y → am_Ev X d sh0 shF tgt l st sh M Q) (kf : ¬ x < y → am_Ev X d sh0 shF (pc + 3) l st sh M Q) : am_Ev X d sh0 shF pc l (.int y :: .int x :: st) sh M Q := by
  intro p la e R s m args below meth c G Z C HZ ls H locs hL hW hS
  exact lv_icmp_lt C.1 C.2.1 hd ht (fun q => kt q p la e R s m args below meth c G Z C HZ ls H locs hL hW hS) (fun q => kf q p la e R s m args below meth c G Z C HZ ls H locs hL hW hS)
theorem ev_if_ge {x : Int32} {off : Int} (tgt : Nat) (hd : decode X.2.2.1 pc = .ok (.ifCond .ge off, 3)) (ht : (pc : Int) + off = (tgt : Int)) (kt : 0 ≤ x → am_Ev X d sh0 shF tgt l st sh M Q) (kf : ¬ 0 ≤ x → am_Ev X d sh0 shF (pc + 3) l st sh M Q) : am_Ev X d sh0 shF pc l (.int x :: st) sh M Q := by
  intro p la e R s m args below meth c G Z C HZ ls H locs hL hW hS
  exact lv_if_ge C.1 C.2.1 hd ht (fun q => kt q p la e R s m args below meth c G Z C HZ ls H locs hL hW hS) (fun q => kf q p la e R s m args below meth c G Z C HZ ls H locs hL hW hS)
theorem ev_icmp_ge {x y : Int32} {off : Int} (tgt : Nat) (hd : decode X.2.2.1 pc = .ok (.if_icmp .ge off, 3)) (ht : (pc : Int) + off = (tgt : Int)) (kt : y ≤ x → am_Ev X d sh0 shF tgt l st sh M Q) (kf : ¬ y ≤ x → am_Ev X d sh0 shF (pc + 3) l st sh M Q) : am_Ev X d sh0 shF pc l (.int y :: .int x :: st) sh M Q := by
  intro p la e R s m args below meth c G Z C HZ ls H locs hL hW hS
  exact lv_icmp_ge C.1 C.2.1 hd ht (fun q => kt q p la e R s m args below meth c G Z C HZ ls H locs hL hW hS) (fun q => kf q p la e R s m args below meth c G Z C HZ ls H locs hL hW hS)
theorem ev_if_gt {x : Int32} {off : Int} (tgt : Nat) (hd : decode X.2.2.1 pc = .ok (.ifCond .gt off, 3)) (ht : (pc : Int) + off = (tgt : Int)) (kt : 0 < x → am_Ev X d sh0 shF tgt l st sh M Q) (kf : ¬ 0 < x → am_Ev X d sh0 shF (pc + 3) l st sh M Q) : am_Ev X d sh0 shF pc l (.int x :: st) sh M Q := by
  intro p la e R s m args below meth c G Z C HZ ls H locs hL hW hS
  exact lv_if_gt C.1 C.2.1 hd ht (fun q => kt q p la e R s m args below meth c G Z C HZ ls H locs hL hW hS) (fun q => kf q p la e R s m args below meth c G Z C HZ ls H locs hL hW hS)
theorem ev_icmp_gt {x y : Int32} {off : Int} (tgt : Nat) (hd : decode X.2.2.1 pc = .ok (.if_icmp .gt off, 3)) (ht : (pc : Int) + off = (tgt : Int)) (kt : y < x → am_Ev X d sh0 shF tgt l st sh M Q) (kf : ¬ y < x → am_Ev X d sh0 shF (pc + 3) l st sh M Q) : am_Ev X d sh0 shF pc l (.int y :: .int x :: st) sh M Q := by
  intro p la e R s m args below meth c G Z C HZ ls H locs hL hW hS
  exact lv_icmp_gt C.1 C.2.1 hd ht (fun q => kt q p la e R s m args below meth c G Z C HZ ls H locs hL hW hS) (fun q => kf q p la e R s m args below meth c G Z C HZ ls H locs hL hW hS)
theorem ev_if_le {x : Int32} {off : Int} (tgt : Nat) (hd : decode X.2.2.1 pc = .ok (.ifCond .le off, 3)) (ht : (pc : Int) + off = (tgt : Int)) (kt : x ≤ 0 → am_Ev X d sh0 shF tgt l st sh M Q) (kf : ¬ x ≤ 0 → am_Ev X d sh0 shF (pc + 3) l st sh M Q) : am_Ev X d sh0 shF pc l (.int x :: st) sh M Q := by
  intro p la e R s m args below meth c G Z C HZ ls H locs hL hW hS
  exact lv_if_le C.1 C.2.1 hd ht (fun q => kt q p la e R s m args below meth c G Z C HZ ls H locs hL hW hS) (fun q => kf q p la e R s m args below meth c G Z C HZ ls H locs hL hW hS)
theorem ev_icmp_le {x y : Int32} {off : Int} (tgt : Nat) (hd : decode X.2.2.1 pc = .ok (.if_icmp .le off, 3)) (ht : (pc : Int) + off = (tgt : Int)) (kt : x ≤ y → am_Ev X d sh0 shF tgt l st sh M Q) (kf : ¬ x ≤ y → am_Ev X d sh0 shF (pc + 3) l st sh M Q) : am_Ev X d sh0 shF pc l (.int y :: .int x :: st) sh M Q := by
  intro p la e R s m args below meth c G Z C HZ ls H locs hL hW hS
  exact lv_icmp_le C.1 C.2.1 hd ht (fun q => kt q p la e R s m args below meth c G Z C HZ ls H locs hL hW hS) (fun q => kf q p la e R s m args below meth c G Z C HZ ls H locs hL hW hS)
theorem ev_ncmp_eq {x y : Int32} {off : Int} (tgt : Nat) (a b : Nat) (hd : decode X.2.2.1 pc = .ok (.if_icmp .eq off, 3)) (ht : (pc : Int) + off = (tgt : Int)) (hx : x = nI a) (hy : y = nI b) (ha : a < 2 ^ 31) (hb : b < 2 ^ 31) (kt : a = b → am_Ev X d sh0 shF tgt l st sh M Q) (kf : a ≠ b → am_Ev X d sh0 shF (pc + 3) l st sh M Q) : am_Ev X d sh0 shF pc l (.int y :: .int x :: st) sh M Q := by
  subst hx hy
  exact ev_icmp_eq tgt hd ht (fun q => kt (((nI_eq ha hb).mp) q)) (fun q => kf ((mt (nI_eq ha hb).mpr) q))
theorem ev_ncmp_ne {x y : Int32} {off : Int} (tgt : Nat) (a b : Nat) (hd : decode X.2.2.1 pc = .ok (.if_icmp .ne off, 3)) (ht : (pc : Int) + off = (tgt : Int)) (hx : x = nI a) (hy : y = nI b) (ha : a < 2 ^ 31) (hb : b < 2 ^ 31) (kt : a ≠ b → am_Ev X d sh0 shF tgt l st sh M Q) (kf : a = b → am_Ev X d sh0 shF (pc + 3) l st sh M Q) : am_Ev X d sh0 shF pc l (.int y :: .int x :: st) sh M Q := by
  subst hx hy
  exact ev_icmp_ne tgt hd ht (fun q => kt ((mt (nI_eq ha hb).mpr) q)) (fun q => kf (((nI_eq ha hb).mp) q))
theorem ev_ncmp_lt {x y : Int32} {off : Int} (tgt : Nat) (a b : Nat) (hd : decode X.2.2.1 pc = .ok (.if_icmp .lt off, 3)) (ht : (pc : Int) + off = (tgt : Int)) (hx : x = nI a) (hy : y = nI b) (ha : a < 2 ^ 31) (hb : b < 2 ^ 31) (kt : a < b → am_Ev X d sh0 shF tgt l st sh M Q) (kf : b ≤ a → am_Ev X d sh0 shF (pc + 3) l st sh M Q) : am_Ev X d sh0 shF pc l (.int y :: .int x :: st) sh M Q := by
  subst hx hy
  exact ev_icmp_lt tgt hd ht (fun q => kt (((nI_ltI ha hb).mp) q)) (fun q => kf ((fun q => Nat.le_of_not_lt (mt (nI_ltI ha hb).mpr q)) q))
theorem ev_ncmp_ge {x y : Int32} {off : Int} (tgt : Nat) (a b : Nat) (hd : decode X.2.2.1 pc = .ok (.if_icmp .ge off, 3)) (ht : (pc : Int) + off = (tgt : Int)) (hx : x = nI a) (hy : y = nI b) (ha : a < 2 ^ 31) (hb : b < 2 ^ 31) (kt : b ≤ a → am_Ev X d sh0 shF tgt l st sh M Q) (kf : a < b → am_Ev X d sh0 shF (pc + 3) l st sh M Q) : am_Ev X d sh0 shF pc l (.int y :: .int x :: st) sh M Q := by
  subst hx hy
  exact ev_icmp_ge tgt hd ht (fun q => kt (((nI_leI hb ha).mp) q)) (fun q => kf ((fun q => Nat.lt_of_not_le (mt (nI_leI hb ha).mpr q)) q))
theorem ev_ncmp_gt {x y : Int32} {off : Int} (tgt : Nat) (a b : Nat) (hd : decode X.2.2.1 pc = .ok (.if_icmp .gt off, 3)) (ht : (pc : Int) + off = (tgt : Int)) (hx : x = nI a) (hy : y = nI b) (ha : a < 2 ^ 31) (hb : b < 2 ^ 31) (kt : b < a → am_Ev X d sh0 shF tgt l st sh M Q) (kf : a ≤ b → am_Ev X d sh0 shF (pc + 3) l st sh M Q) : am_Ev X d sh0 shF pc l (.int y :: .int x :: st) sh M Q := by
  subst hx hy
  exact ev_icmp_gt tgt hd ht (fun q => kt (((nI_ltI hb ha).mp) q)) (fun q => kf ((fun q => Nat.le_of_not_lt (mt (nI_ltI hb ha).mpr q)) q))
theorem ev_ncmp_le {x y : Int32} {off : Int} (tgt : Nat) (a b : Nat) (hd : decode X.2.2.1 pc = .ok (.if_icmp .le off, 3)) (ht : (pc : Int) + off = (tgt : Int)) (hx : x = nI a) (hy : y = nI b) (ha : a < 2 ^ 31) (hb : b < 2 ^ 31) (kt : a ≤ b → am_Ev X d sh0 shF tgt l st sh M Q) (kf : b < a → am_Ev X d sh0 shF (pc + 3) l st sh M Q) : am_Ev X d sh0 shF pc l (.int y :: .int x :: st) sh M Q := by
  subst hx hy
  exact ev_icmp_le tgt hd ht (fun q => kt (((nI_leI ha hb).mp) q)) (fun q => kf ((fun q => Nat.lt_of_not_le (mt (nI_leI ha hb).mpr q)) q))
theorem ev_goto {off : Int} (tgt : Nat) (hd : decode X.2.2.1 pc = .ok (.goto off, 3)) (ht : (pc : Int) + off = (tgt : Int)) (h : am_Ev X d sh0 shF tgt l st sh M Q) : am_Ev X d sh0 shF pc l st sh M Q := by
  intro p la e R s m args below meth c G Z C HZ ls H locs hL hW hS
  exact lv_goto C.1 C.2.1 hd ht (h p la e R s m args below meth c G Z C HZ ls H locs hL hW hS)
theorem ev_ifnull {x : Nat} {off : Int} (hd : decode X.2.2.1 pc = .ok (.ifnull off, 3)) (h : am_Ev X d sh0 shF (pc + 3) l st sh M Q) : am_Ev X d sh0 shF pc l (.ref x :: st) sh M Q := by
  intro p la e R s m args below meth c G Z C HZ ls H locs hL hW hS
  exact lv_ifnull C.1 C.2.1 hd (h p la e R s m args below meth c G Z C HZ ls H locs hL hW hS)
theorem ev_ifnullN {off : Int} (tgt : Nat) (hd : decode X.2.2.1 pc = .ok (.ifnull off, 3)) (ht : (pc : Int) + off = (tgt : Int)) (h : am_Ev X d sh0 shF tgt l st sh M Q) : am_Ev X d sh0 shF pc l (.null :: st) sh M Q := by
  intro p la e R s m args below meth c G Z C HZ ls H locs hL hW hS
  exact lv_ifnullN C.1 C.2.1 hd ht (h p la e R s m args below meth c G Z C HZ ls H locs hL hW hS)
theorem ev_tabOut {dflt lo hi : Int} {offs : Array Int} {len : Nat} {x : Int32} (tgt : Nat) (hd : decode X.2.2.1 pc = .ok (.tableswitch dflt lo hi offs, len)) (hx : x.toInt < lo ∨ hi < x.toInt) (ht : (pc : Int) + dflt = (tgt : Int)) (h : am_Ev X d sh0 shF tgt l st sh M Q) : am_Ev X d sh0 shF pc l (.int x :: st) sh M Q := by
  intro p la e R s m args below meth c G Z C HZ ls H locs hL hW hS
  exact lv_tableOut C.1 C.2.1 hd hx ht (h p la e R s m args below meth c G Z C HZ ls H locs hL hW hS)
theorem ev_tabIn {dflt lo hi : Int} {offs : Array Int} {len : Nat} {x : Int32} {off : Int} (tgt : Nat) (hd : decode X.2.2.1 pc = .ok (.tableswitch dflt lo hi offs, len)) (h1 : ¬ x.toInt < lo) (h2 : ¬ hi < x.toInt) (ho : offs[(x.toInt - lo).toNat]? = some off) (ht : (pc : Int) + off = (tgt : Int)) (h : am_Ev X d sh0 shF tgt l st sh M Q) : am_Ev X d sh0 shF pc l (.int x :: st) sh M Q := by
  intro p la e R s m args below meth c G Z C HZ ls H locs hL hW hS
  exact lv_tableIn C.1 C.2.1 hd h1 h2 ho ht (h p la e R s m args below meth c G Z C HZ ls H locs hL hW hS)
theorem ev_lookup {dflt : Int} {ps : Array (Int × Int)} {len : Nat} {x : Int32} {off : Int} (tgt : Nat) (hd : decode X.2.2.1 pc = .ok (.lookupswitch dflt ps, len)) (hp : (ps.toList.zip (ps.toList.drop 1)).all (fun (a, next) => a.1 < next.1) = true) (ho : Op.lookupswitch.offset ps.toList dflt x.toInt = off) (ht : (pc : Int) + off = (tgt : Int)) (h : am_Ev X d sh0 shF tgt l st sh M Q) : am_Ev X d sh0 shF pc l (.int x :: st) sh M Q := by
  intro p la e R s m args below meth c G Z C HZ ls H locs hL hW hS
  exact lv_lookup C.1 C.2.1 hd hp ho ht (h p la e R s m args below meth c G Z C HZ ls H locs hL hW hS)
theorem ev_ldc {idx : Nat} {v : Int32} (hk : Cond.constant (am_cn X.1) idx v ∈ am_wd) (hd : decode X.2.2.1 pc = .ok (.ldc idx, 2)) (h : am_Ev X d sh0 shF (pc + 2) l (.int v :: st) sh M Q) : am_Ev X d sh0 shF pc l st sh M Q := by
  intro p la e R s m args below meth c G Z C HZ ls H locs hL hW hS
  exact lv_ldc C.1 C.2.1 C.2.2.2.1 (C.2.2.2.2.1 _ hk) hd (h p la e R s m args below meth c G Z C HZ ls H locs hL hW hS)
theorem ev_ldc2 {idx : Nat} {v : Int64} (hk : Cond.constantLong (am_cn X.1) idx v ∈ am_wd) (hd : decode X.2.2.1 pc = .ok (.ldc2_w idx, 3)) (h : am_Ev X d sh0 shF (pc + 3) l (.long v :: st) sh M Q) : am_Ev X d sh0 shF pc l st sh M Q := by
  intro p la e R s m args below meth c G Z C HZ ls H locs hL hW hS
  exact lv_ldc2 C.1 C.2.1 C.2.2.2.1 (C.2.2.2.2.1 _ hk) hd (h p la e R s m args below meth c G Z C HZ ls H locs hL hW hS)
theorem ev_ret {v : Option Value} {ins : Instr} (hd : decode X.2.2.1 pc = .ok (ins, 1)) (hr : am_rt X.2.2.2.2.1 v ins) (hs : v.toList = st) (he : sh = shF) (hq : Q v M) : am_Ev X d sh0 shF pc l st sh M Q := by
  subst he
  subst hs
  intro p la e R s m args below meth c G Z C HZ ls H locs hL hW hS
  exact HZ v M H locs pc ls ins hr hd hq hW hS
theorem ev_vret (hd : decode X.2.2.1 pc = .ok (.return_, 1)) (hr : X.2.2.2.2.1 = none) (hq : Q none M) : am_Ev X d sh0 sh pc l [] sh M Q := ev_ret (v := none) hd ⟨hr, rfl⟩ rfl rfl hq
theorem ev_iret {x : Int32} (hd : decode X.2.2.1 pc = .ok (.ireturn, 1)) (hr : X.2.2.2.2.1 = some .int) (hq : Q (some (.int x)) M) : am_Ev X d sh0 sh pc l [.int x] sh M Q := ev_ret (v := some (.int x)) hd ⟨rfl, .int, hr, rfl⟩ rfl rfl hq
theorem ev_zret {x : Int32} (hd : decode X.2.2.1 pc = .ok (.ireturn, 1)) (hr : X.2.2.2.2.1 = some .boolean) (hx : x = 0 ∨ x = 1) (hq : Q (some (.int x)) M) : am_Ev X d sh0 sh pc l [.int x] sh M Q := ev_ret (v := some (.int x)) hd ⟨rfl, .boolean, hr, by rcases hx with rfl | rfl <;> rfl⟩ rfl rfl hq
theorem ev_lret {x : Int64} (hd : decode X.2.2.1 pc = .ok (.lreturn, 1)) (hr : X.2.2.2.2.1 = some .long) (hq : Q (some (.long x)) M) : am_Ev X d sh0 sh pc l [.long x] sh M Q := ev_ret (v := some (.long x)) hd ⟨rfl, hr⟩ rfl rfl hq
theorem ev_aret {x : Nat} {C : String} (hd : decode X.2.2.1 pc = .ok (.areturn, 1)) (hr : X.2.2.2.2.1 = some (.object C)) (hq : Q (some (.ref x)) M) : am_Ev X d sh0 sh pc l [.ref x] sh M Q := ev_ret (v := some (.ref x)) hd ⟨rfl, C, hr⟩ rfl rfl hq
theorem ev_nret {C : String} (hd : decode X.2.2.1 pc = .ok (.areturn, 1)) (hr : X.2.2.2.2.1 = some (.object C)) (hq : Q (some .null) M) : am_Ev X d sh0 sh pc l [.null] sh M Q := ev_ret (v := some .null) hd ⟨rfl, C, hr⟩ rfl rfl hq
/-- fewer known locals -/
theorem ev_sub (l' : List (Option Value)) (hs : ∀ i v, am_gl l' i = some v → am_gl l i = some v) (h : am_Ev X d sh0 shF pc l' st sh M Q) : am_Ev X d sh0 shF pc l st sh M Q := by
  intro p la e R s m args below meth c G Z C HZ ls H locs hL hW hS
  exact h p la e R s m args below meth c G Z C HZ ls H locs (hL.sub hs) hW hS
theorem ev_mono {Q' : Option Value → am_M → Prop} (hq : ∀ v M, Q' v M → Q v M) (h : am_Ev X d sh0 shF pc l st sh M Q') : am_Ev X d sh0 shF pc l st sh M Q := by
  intro p la e R s m args below meth c G Z C HZ ls H locs hL hW hS
  exact h p la e R s m args below meth c G Z C (fun v M H locs pc ls ins hr hd hq' hW hS => HZ v M H locs pc ls ins hr hd (hq v M hq') hW hS) ls H locs hL hW hS
end AMR
theorem am_sub0 (x : Option Value) {l' l : List (Option Value)} (h : ∀ i v, am_gl l' i = some v → am_gl l i = some v) : ∀ i v, am_gl (none :: l') i = some v → am_gl (x :: l) i = some v := by
  intro i v hv
  cases i with
  | zero => cases hv
  | succ i => exact h i v hv
theorem am_sub1 (x : Option Value) {l' l : List (Option Value)} (h : ∀ i v, am_gl l' i = some v → am_gl l i = some v) : ∀ i v, am_gl (x :: l') i = some v → am_gl (x :: l) i = some v := by
  intro i v hv
  cases i with
  | zero => exact hv
  | succ i => exact h i v hv
theorem am_subn (l : List (Option Value)) : ∀ i v, am_gl [] i = some v → am_gl l i = some v := fun i v h => by simp [am_gl] at h

