/-! ===== fields, arrays, new cells, calls ===== -/
def ui (I : Nat → Nat → Int32) (a i : Nat) (v : Int32) : Nat → Nat → Int32 := fun b j => if b = a ∧ j = i then v else I b j
def uj (J : Nat → Nat → Int64) (a i : Nat) (v : Int64) : Nat → Nat → Int64 := fun b j => if b = a ∧ j = i then v else J b j
def uk (K : Nat → Nat → Option Nat) (a i : Nat) (v : Option Nat) : Nat → Nat → Option Nat := fun b j => if b = a ∧ j = i then v else K b j
def ci (I : Nat → Nat → Int32) (a : Nat) : Nat → Nat → Int32 := fun b j => if b = a then 0 else I b j
def cj (J : Nat → Nat → Int64) (a : Nat) : Nat → Nat → Int64 := fun b j => if b = a then 0 else J b j
def ck (K : Nat → Nat → Option Nat) (a : Nat) : Nat → Nat → Option Nat := fun b j => if b = a then none else K b j
/-- a row of an array, whole -/
def ur (I : Nat → Nat → Int32) (a : Nat) (f : Nat → Int32) : Nat → Nat → Int32 := fun b j => if b = a then f j else I b j
theorem am_one_i {I : Nat → Nat → Int32} {J : Nat → Nat → Int64} {K : Nat → Nat → Option Nat} {a i : Nat} {v : Int32} : am_one (I, J, K) (ui I a i v, J, K) a := fun b hb => ⟨by funext j; simp [ui, hb], rfl, rfl⟩
theorem am_one_j {I : Nat → Nat → Int32} {J : Nat → Nat → Int64} {K : Nat → Nat → Option Nat} {a i : Nat} {v : Int64} : am_one (I, J, K) (I, uj J a i v, K) a := fun b hb => ⟨rfl, by funext j; simp [uj, hb], rfl⟩
theorem am_one_k {I : Nat → Nat → Int32} {J : Nat → Nat → Int64} {K : Nat → Nat → Option Nat} {a i : Nat} {v : Option Nat} : am_one (I, J, K) (I, J, uk K a i v) a := fun b hb => ⟨rfl, rfl, by funext j; simp [uk, hb]⟩
theorem am_one_r {I : Nat → Nat → Int32} {J : Nat → Nat → Int64} {K : Nat → Nat → Option Nat} {a : Nat} {f : Nat → Int32} : am_one (I, J, K) (ur I a f, J, K) a := fun b hb => ⟨by funext j; simp [ur, hb], rfl, rfl⟩
theorem am_one_c {I : Nat → Nat → Int32} {J : Nat → Nat → Int64} {K : Nat → Nat → Option Nat} {a : Nat} : am_one (I, J, K) (ci I a, cj J a, ck K a) a := fun b hb => ⟨by funext j; simp [ci, hb], by funext j; simp [cj, hb], by funext j; simp [ck, hb]⟩
theorem am_Wset {G : am_G} {sh : am_S} {M M' : am_M} {a : Nat} {q : Nat × Nat} {s : State} {H H1 : Heap} {locs1 : List Loc} (h1 : am_one M M' a) (hq : am_nt sh a = some q) (ha : a ≠ 0) (hW : am_W G sh M s H)
    (hP1 : va_P G.2.2.1 vwCl ((am_ws G sh M).set (a - 1) (am_up G a, am_en G M' a q)) H1) (hz : H1.size = H.size) (hS1 : va_S (am_A G) H H1 locs1) : am_W G sh M' s H1 := by
  have hsz := hW.size
  obtain ⟨h2, h3, h4, h5, L, h6, h7⟩ := hW
  refine ⟨h2, by rw [hz]; exact h3, by rw [am_ws_set h1 hq ha]; exact hP1, h5, L, h6, ?_⟩
  rw [(h1 0 (Ne.symm ha)).1]
  exact h7.kept (hS1.2.1 _ (Nat.lt_of_le_of_lt h2 hsz) (Nat.not_lt.mpr h2))
theorem am_S_trans {A : Nat → Prop} {H0 H H1 : Heap} {locs locs1 : List Loc} (h : va_S A H0 H locs) (h1 : va_S A H H1 locs1) : va_S A H0 H1 locs1 :=
  ⟨Nat.le_trans h.1 h1.1, fun q a b => by rw [h1.2.1 q (Nat.lt_of_lt_of_le a h.1) b]; exact h.2.1 q a b, h1.2.2⟩
theorem am_S_self {A : Nat → Prop} {H0 H : Heap} {locs : List Loc} (h : va_S A H0 H locs) : va_S A H H locs := ⟨Nat.le_refl _, fun _ _ _ => rfl, h.2.2⟩
/-! what the tables say of a class -/
def am_dv : Nat → Value
  | 0 => .int 0
  | 1 => .long 0
  | _ => .null
def am_tyf : Nat → Nat → FieldType
  | 0 => tyX0 | 1 => tyX1 | 2 => tyX2 | 3 => tyX3 | 4 => tyX4 | 5 => tyX5 | 6 => tyX6 | 7 => tyX7 | _ => tyX8
def am_cls (k : Nat) (r : vw_C) : Prop := (∀ w ∈ u_ws r.1 r.2.1 r.2.2, w ∈ am_wd) ∧ (∀ j, j < r.2.2 → parseFieldDescriptor (r.2.1 j).2.2.1 = some (am_tyf k j)) ∧ (∀ a, a < r.2.2 → ∀ b, b < r.2.2 → a ≠ b → (r.2.1 a).2.1 ≠ (r.2.1 b).2.1) ∧ (∀ j, j < r.2.2 → defaultValue (am_tyf k j) = am_dv (am_ft k j)) ∧ r.1 = am_cn k ∧ k < 9
theorem am_mem_wd {ws : List Cond} (h : ∀ w ∈ ws, w ∈ lw_tbl) (h2 : ws.all goodWord = true) : ∀ w ∈ ws, w ∈ am_wd := fun w hw => List.mem_filter.mpr ⟨h w hw, List.all_eq_true.mp h2 w hw⟩
theorem am_cls0 : am_cls 0 (RX0, TX0, 10) := ⟨am_mem_wd inX0 (by decide +kernel), tyX0_ok, nmX0, by decide +kernel, rfl, by decide⟩
theorem am_cls1 : am_cls 1 (RX1, TX1, 8) := ⟨am_mem_wd inX1 (by decide +kernel), tyX1_ok, nmX1, by decide +kernel, rfl, by decide⟩
theorem am_cls2 : am_cls 2 (RX2, TX2, 9) := ⟨am_mem_wd inX2 (by decide +kernel), tyX2_ok, nmX2, by decide +kernel, rfl, by decide⟩
theorem am_cls3 : am_cls 3 (RX3, TX3, 2) := ⟨am_mem_wd inX3 (by decide +kernel), tyX3_ok, nmX3, by decide +kernel, rfl, by decide⟩
theorem am_cls4 : am_cls 4 (RX4, TX4, 4) := ⟨am_mem_wd inX4 (by decide +kernel), tyX4_ok, nmX4, by decide +kernel, rfl, by decide⟩
theorem am_cls5 : am_cls 5 (RX5, TX5, 2) := ⟨am_mem_wd inX5 (by decide +kernel), tyX5_ok, nmX5, by decide +kernel, rfl, by decide⟩
theorem am_cls6 : am_cls 6 (RX6, TX6, 9) := ⟨am_mem_wd inX6 (by decide +kernel), tyX6_ok, nmX6, by decide +kernel, rfl, by decide⟩
theorem am_cls7 : am_cls 7 (RX7, TX7, 5) := ⟨am_mem_wd inX7 (by decide +kernel), tyX7_ok, nmX7, by decide +kernel, rfl, by decide⟩
theorem am_cls8 : am_cls 8 (RX8, TX8, 21) := ⟨am_mem_wd inX8 (by decide +kernel), tyX8_ok, nmX8, by decide +kernel, rfl, by decide⟩
theorem am_clsOf {k : Nat} {r : vw_C} (h : vwCl[k]? = some r) : am_cls k r := by
  match k, h with
  | 0, h => cases h; exact am_cls0
  | 1, h => cases h; exact am_cls1
  | 2, h => cases h; exact am_cls2
  | 3, h => cases h; exact am_cls3
  | 4, h => cases h; exact am_cls4
  | 5, h => cases h; exact am_cls5
  | 6, h => cases h; exact am_cls6
  | 7, h => cases h; exact am_cls7
  | 8, h => cases h; exact am_cls8
  | k + 9, h => simp at h
/-- a field's link: by the class that runs, its place in the pool; the field's class, its place there -/
def am_kF (oc idx c k : Nat) : Prop := ∃ r : vw_C, vwCl[c]? = some r ∧ k < r.2.2 ∧ (Cond.fieldLink (am_cn oc) idx (r.2.1 k).1 (r.2.1 k).2.1 (r.2.1 k).2.2.1 ∈ am_wd ∨ ∃ host, Cond.fieldLinkNest (am_cn oc) idx (r.2.1 k).1 (r.2.1 k).2.1 (r.2.1 k).2.2.1 host ∈ am_nw)
def am_kD (oc idx c k : Nat) : Prop := ∃ r : vw_C, vwCl[c]? = some r ∧ k < r.2.2 ∧ Cond.fieldLink (am_cn oc) idx (r.2.1 k).1 (r.2.1 k).2.1 (r.2.1 k).2.2.1 ∈ am_wd
def am_fin (c k : Nat) : Bool := match vwCl[c]? with
  | some r => (r.2.1 k).2.2.2
  | none => false
def am_fcl (c k : Nat) : String := match vwCl[c]? with
  | some r => (r.2.1 k).1
  | none => ""
theorem am_en_obj {G : am_G} {M : am_M} {a c N : Nat} (h : c < 9) : am_en G M a (c, N) = .inr (c, (List.range N).map (am_sv G M c a)) := by
  match c, h with
  | 0, _ => rfl
  | 1, _ => rfl
  | 2, _ => rfl
  | 3, _ => rfl
  | 4, _ => rfl
  | 5, _ => rfl
  | 6, _ => rfl
  | 7, _ => rfl
  | 8, _ => rfl
theorem am_sv_set {G : am_G} {M M' : am_M} {c a k N : Nat} {v : Value} (h1 : ∀ j, j ≠ k → am_sv G M' c a j = am_sv G M c a j) (h2 : am_sv G M' c a k = v) : ((List.range N).map (am_sv G M c a)).set k v = (List.range N).map (am_sv G M' c a) := by
  apply List.ext_getElem?
  intro j
  by_cases hj : j = k
  · subst hj
    by_cases hl : j < N
    · rw [List.getElem?_set_self (by simpa using hl), List.getElem?_map, List.getElem?_range hl, Option.map_some, h2]
    · rw [List.getElem?_eq_none (by simp; omega), List.getElem?_eq_none (by simp; omega)]
  · rw [List.getElem?_set_ne (Ne.symm hj), List.getElem?_map, List.getElem?_map]
    by_cases hl : j < N
    · rw [List.getElem?_range hl, Option.map_some, Option.map_some, h1 j hj]
    · rw [List.getElem?_eq_none (by simp; omega)]
      rfl
theorem am_acI : Cond.arrayClass .int ∈ am_wd := am_in (i := 98) (by decide +kernel)
theorem am_acJ : Cond.arrayClass .long ∈ am_wd := am_in (i := 231) (by decide +kernel)
section AMM
variable {X : am_me} {d : Nat} {sh0 shF sh : am_S} {pc : Nat} {l : List (Option Value)} {st : List Value} {I : Nat → Nat → Int32} {J : Nat → Nat → Int64} {K : Nat → Nat → Option Nat} {Q : Option Value → am_M → Prop}
theorem am_hz {p : Program} {la : Launch} {e : Env} {R : Room} {s : State} {m : MethodId} {args : Array Value} {below : List Frame} {meth : Method} {c : Code} {H : Heap} {locs : List Loc} {cells slots : Nat} {Z : State → Prop} {g : JFrame} (h : H.size ≤ s.heap.size + cells → W p la e R s m args below meth c H locs cells slots Z g) : W p la e R s m args below meth c H locs cells slots Z g :=
  fun T hT X => h (by rw [← hT]; exact X.heapSize) T hT X
/-- the size of the heap stays in a store -/
theorem am_fin2 {p : Program} {la : Launch} {e : Env} {R : Room} {s : State} {m : MethodId} {args : Array Value} {below : List Frame} {meth : Method} {c : Code} {G : am_G} {M : am_M} {H H1 : Heap} {locs locs1 : List Loc} {slots : Nat} {Z : State → Prop} {g : JFrame}
    (hs0 : s.heap.size = G.2.1 + sh0.length) (hW : am_W G sh M s H) (hS : va_S (am_A G) s.heap H locs) (hS1 : va_S (am_A G) H H1 locs1)
    (k : H1.size = H.size → va_S (am_A G) s.heap H1 locs1 → W p la e R s m args below meth c H1 locs1 (am_k sh0 sh) slots Z g) : W p la e R s m args below meth c H1 locs1 (am_k sh0 sh) slots Z g := by
  refine am_hz fun hz => k ?_ (am_S_trans hS hS1)
  have h1 := hS1.1
  have h2 := hW.2.1
  have h3 := hS.1
  unfold am_k at hz
  omega
theorem am_getf {f k a N idx : Nat} {v w : Value} (hk : am_kF X.1 idx f k) (hd : decode X.2.2.1 pc = .ok (.getfield idx, 3)) (hs : am_nt sh a = some (f, N)) (hb : (Nat.blt 0 a && Nat.blt k N) = true) (hv : ∀ G : am_G, am_sv G (I, J, K) f a k = am_cv G v) (h : am_Ev X d sh0 shF (pc + 3) l (v :: st) sh (I, J, K) Q) : am_Ev X d sh0 shF pc l (.ref a :: st) sh (I, J, K) Q := by
  intro p la e R s m args below meth c G Z C HZ ls H locs hL hW hS
  obtain ⟨r, hr, hkr, hlink⟩ := hk
  have hcl := am_clsOf hr
  simp only [Bool.and_eq_true, Nat.blt_eq] at hb
  have ha : a ≠ 0 := by omega
  obtain ⟨w1, w2, hP, hK, w3⟩ := id hW
  have he := am_ws_at (G := G) (M := (I, J, K)) hs ha
  rw [am_en_obj hcl.2.2.2.2.2] at he
  have hfs : ((List.range N).map (am_sv G (I, J, K) f a))[k]? = some (am_cv G v) := by
    rw [List.getElem?_map, List.getElem?_range hb.2, Option.map_some, hv G]
  have hgo := h p la e R s m args below meth c G Z C HZ ls H locs hL hW hS
  obtain ⟨C1, T, n⟩ := r
  rcases hlink with hlk | ⟨host, hlk⟩
  · exact va_get C.1 C.2.1 C.2.2.2.2.1 hcl.1 C.2.2.2.1 hK hP (a - 1) he hr k hkr (C.2.2.2.2.1 _ hlk) (fun x h9 => h9) hfs hd hgo
  · exact va_getN (host := host) C.1 C.2.1 C.2.2.2.2.1 hcl.1 C.2.2.2.1 hK hP (a - 1) he hr k hkr (va_Nw.use rfl (C.2.2.2.2.2.1.1 _ hlk)) (fun x h9 => h9) hfs hd hgo
theorem ev_geti {f k a N idx : Nat} (hk : am_kF X.1 idx f k) (hd : decode X.2.2.1 pc = .ok (.getfield idx, 3)) (hs : am_nt sh a = some (f, N)) (hb : (Nat.blt 0 a && Nat.blt k N && Nat.beq (am_ft f k) 0) = true) (h : am_Ev X d sh0 shF (pc + 3) l (.int (I a k) :: st) sh (I, J, K) Q) : am_Ev X d sh0 shF pc l (.ref a :: st) sh (I, J, K) Q := by
  simp only [Bool.and_eq_true, Nat.beq_eq] at hb
  exact am_getf (w := .null) hk hd hs (by simp only [Bool.and_eq_true]; exact hb.1) (fun G => by simp only [am_sv, hb.2]; rfl) h
theorem ev_getl {f k a N idx : Nat} (hk : am_kF X.1 idx f k) (hd : decode X.2.2.1 pc = .ok (.getfield idx, 3)) (hs : am_nt sh a = some (f, N)) (hb : (Nat.blt 0 a && Nat.blt k N && Nat.beq (am_ft f k) 1) = true) (h : am_Ev X d sh0 shF (pc + 3) l (.long (J a k) :: st) sh (I, J, K) Q) : am_Ev X d sh0 shF pc l (.ref a :: st) sh (I, J, K) Q := by
  simp only [Bool.and_eq_true, Nat.beq_eq] at hb
  exact am_getf (w := .null) hk hd hs (by simp only [Bool.and_eq_true]; exact hb.1) (fun G => by simp only [am_sv, hb.2]; rfl) h
theorem ev_getr {f k a N idx b : Nat} (hk : am_kF X.1 idx f k) (hd : decode X.2.2.1 pc = .ok (.getfield idx, 3)) (hs : am_nt sh a = some (f, N)) (hb : (Nat.blt 0 a && Nat.blt k N && Nat.beq (am_ft f k) 2) = true) (hr : K a k = some b) (h : am_Ev X d sh0 shF (pc + 3) l (.ref b :: st) sh (I, J, K) Q) : am_Ev X d sh0 shF pc l (.ref a :: st) sh (I, J, K) Q := by
  simp only [Bool.and_eq_true, Nat.beq_eq] at hb
  exact am_getf (w := .null) hk hd hs (by simp only [Bool.and_eq_true]; exact hb.1) (fun G => by simp only [am_sv, hb.2, hr]; rfl) h
theorem am_put {f k a N idx : Nat} {v : Value} {M' : am_M} (hk : am_kF X.1 idx f k) (hd : decode X.2.2.1 pc = .ok (.putfield idx, 3)) (hs : am_nt sh a = some (f, N)) (hb : (Nat.blt 0 a && Nat.blt k N) = true) (hn : ∀ G : am_G, narrow (am_tyf f k) (am_cv G v) = am_cv G v ∧ fits (am_tyf f k) (am_cv G v) = true) (h1 : am_one (I, J, K) M' a) (h2 : ∀ (G : am_G) (j : Nat), j ≠ k → am_sv G M' f a j = am_sv G (I, J, K) f a j) (h3 : ∀ G : am_G, am_sv G M' f a k = am_cv G v)
    (hfin : am_fin f k = false) (h : am_Ev X d sh0 shF (pc + 3) l st sh M' Q) : am_Ev X d sh0 shF pc l (v :: .ref a :: st) sh (I, J, K) Q := by
  intro p la e R s m args below meth c G Z C HZ ls H locs hL hW hS
  obtain ⟨r, hr, hkr, hlink⟩ := hk
  have hcl := am_clsOf hr
  simp only [Bool.and_eq_true, Nat.blt_eq] at hb
  have ha : a ≠ 0 := by omega
  obtain ⟨w1, w2, hP, hK, w3⟩ := id hW
  have he := am_ws_at (G := G) (M := (I, J, K)) hs ha
  rw [am_en_obj hcl.2.2.2.2.2] at he
  have hset := am_sv_set (G := G) (N := N) (h2 G) (h3 G)
  have hlen : k < ((List.range N).map (am_sv G (I, J, K) f a)).length := by simpa using hb.2
  have hD := am_ws_D G sh (I, J, K)
  have hS0 := am_S_self hS
  obtain ⟨C1, T, n⟩ := r
  have kk : ∀ (H1 : Heap) (locs1 : List Loc), va_P G.2.2.1 vwCl ((am_ws G sh (I, J, K)).set (a - 1) (am_up G a, .inr (f, ((List.range N).map (am_sv G (I, J, K) f a)).set k (am_cv G v)))) H1 → va_D (am_A G) ((am_ws G sh (I, J, K)).set (a - 1) (am_up G a, .inr (f, ((List.range N).map (am_sv G (I, J, K) f a)).set k (am_cv G v)))) → va_S (am_A G) H H1 locs1 →
      W p la e R s m args below meth c H1 locs1 (am_k sh0 sh) (am_n sh0 sh) Z (F0 m (pc + 3) ls (st.map (am_cv G))) := by
    intro H1 locs1 hP1 hD1 hS1
    rw [hset] at hP1
    exact am_fin2 C.2.2.2.2.2.2.2.2.2.2.2.2 hW hS hS1 fun hz hS2 => h p la e R s m args below meth c G Z C HZ ls H1 locs1 hL (am_Wset h1 hs ha hW (by rw [am_en_obj hcl.2.2.2.2.2]; exact hP1) hz hS1) hS2
  have hfin' : (T k).2.2.2 = false := by
    have e : am_fin f k = (T k).2.2.2 := by simp only [am_fin, hr]
    rw [← e]; exact hfin
  rcases hlink with hlk | ⟨host, hlk⟩
  · exact va_put C.1 C.2.1 C.2.2.2.2.1 hcl.1 (am_tyf f) hcl.2.1 hcl.2.2.1 C.2.2.2.1 hK hP hD hS0 (a - 1) he hr k hkr (C.2.2.2.2.1 _ hlk) (fun x h9 => h9) hfin' (hcl.2.1 k hkr) (hn G).1 (hn G).2 hlen hd kk
  · exact va_putN (host := host) C.1 C.2.1 C.2.2.2.2.1 hcl.1 (am_tyf f) hcl.2.1 hcl.2.2.1 C.2.2.2.1 hK hP hD hS0 (a - 1) he hr k hkr (va_Nw.use rfl (C.2.2.2.2.2.1.1 _ hlk)) (fun x h9 => h9) hfin' (hcl.2.1 k hkr) (hn G).1 (hn G).2 hlen hd kk
theorem am_putF {f k a N idx : Nat} {v : Value} {M' : am_M} (hk : am_kD X.1 idx f k) (hd : decode X.2.2.1 pc = .ok (.putfield idx, 3)) (hs : am_nt sh a = some (f, N)) (hb : (Nat.blt 0 a && Nat.blt k N) = true) (hn : ∀ G : am_G, narrow (am_tyf f k) (am_cv G v) = am_cv G v ∧ fits (am_tyf f k) (am_cv G v) = true) (h1 : am_one (I, J, K) M' a) (h2 : ∀ (G : am_G) (j : Nat), j ≠ k → am_sv G M' f a j = am_sv G (I, J, K) f a j) (h3 : ∀ G : am_G, am_sv G M' f a k = am_cv G v)
    (hi : X.2.1.name = "<init>") (hoc : am_fcl f k = am_cn X.1) (hfin : am_fin f k = true) (h : am_Ev X d sh0 shF (pc + 3) l st sh M' Q) : am_Ev X d sh0 shF pc l (v :: .ref a :: st) sh (I, J, K) Q := by
  intro p la e R s m args below meth c G Z C HZ ls H locs hL hW hS
  obtain ⟨r, hr, hkr, hlink⟩ := hk
  have hcl := am_clsOf hr
  simp only [Bool.and_eq_true, Nat.blt_eq] at hb
  have ha : a ≠ 0 := by omega
  obtain ⟨w1, w2, hP, hK, w3⟩ := id hW
  have he := am_ws_at (G := G) (M := (I, J, K)) hs ha
  rw [am_en_obj hcl.2.2.2.2.2] at he
  have hset := am_sv_set (G := G) (N := N) (h2 G) (h3 G)
  have hlen : k < ((List.range N).map (am_sv G (I, J, K) f a)).length := by simpa using hb.2
  have hD := am_ws_D G sh (I, J, K)
  have hS0 := am_S_self hS
  obtain ⟨C1, T, n⟩ := r
  have kk : ∀ (H1 : Heap) (locs1 : List Loc), va_P G.2.2.1 vwCl ((am_ws G sh (I, J, K)).set (a - 1) (am_up G a, .inr (f, ((List.range N).map (am_sv G (I, J, K) f a)).set k (am_cv G v)))) H1 → va_D (am_A G) ((am_ws G sh (I, J, K)).set (a - 1) (am_up G a, .inr (f, ((List.range N).map (am_sv G (I, J, K) f a)).set k (am_cv G v)))) → va_S (am_A G) H H1 locs1 →
      W p la e R s m args below meth c H1 locs1 (am_k sh0 sh) (am_n sh0 sh) Z (F0 m (pc + 3) ls (st.map (am_cv G))) := by
    intro H1 locs1 hP1 hD1 hS1
    rw [hset] at hP1
    exact am_fin2 C.2.2.2.2.2.2.2.2.2.2.2.2 hW hS hS1 fun hz hS2 => h p la e R s m args below meth c G Z C HZ ls H1 locs1 hL (am_Wset h1 hs ha hW (by rw [am_en_obj hcl.2.2.2.2.2]; exact hP1) hz hS1) hS2
  have hfin' : (T k).2.2.2 = true := by
    have e : am_fin f k = (T k).2.2.2 := by simp only [am_fin, hr]
    rw [← e]; exact hfin
  have hdc : (T k).1 = am_cn X.1 := by
    have e : am_fcl f k = (T k).1 := by simp only [am_fcl, hr]
    rw [← e]; exact hoc
  exact va_putF C.1 C.2.1 C.2.2.2.2.1 hcl.1 (am_tyf f) hcl.2.1 hcl.2.2.1 C.2.2.2.1 hK hP hD hS0 (a - 1) he hr k hkr (C.2.2.2.2.1 _ hlink) (fun x h9 => h9) hfin' (C.2.2.2.2.2.2.2.2.2.2.2.1 hi) hdc (hcl.2.1 k hkr) (hn G).1 (hn G).2 hlen hd kk
theorem ev_puti {f k a N idx : Nat} {x : Int32} (hk : am_kF X.1 idx f k) (hd : decode X.2.2.1 pc = .ok (.putfield idx, 3)) (hs : am_nt sh a = some (f, N)) (hb : (Nat.blt 0 a && Nat.blt k N && Nat.beq (am_ft f k) 0) = true) (hfin : am_fin f k = false) (hn : narrow (am_tyf f k) (.int x) = .int x) (hn2 : fits (am_tyf f k) (.int x) = true) (h : am_Ev X d sh0 shF (pc + 3) l st sh (ui I a k x, J, K) Q) : am_Ev X d sh0 shF pc l (.int x :: .ref a :: st) sh (I, J, K) Q := by
  simp only [Bool.and_eq_true, Nat.beq_eq] at hb
  refine am_put hk hd hs (by simp only [Bool.and_eq_true]; exact hb.1) (fun G => ⟨hn, hn2⟩) am_one_i (fun G j hj => ?_) (fun G => ?_) hfin h
  · simp only [am_sv, ui, hj, and_false, if_false]
  · simp only [am_sv, hb.2, ui, and_self, if_true, am_cv]
theorem ev_putl {f k a N idx : Nat} {x : Int64} (hk : am_kF X.1 idx f k) (hd : decode X.2.2.1 pc = .ok (.putfield idx, 3)) (hs : am_nt sh a = some (f, N)) (hb : (Nat.blt 0 a && Nat.blt k N && Nat.beq (am_ft f k) 1) = true) (hfin : am_fin f k = false) (hn : am_tyf f k = .long) (h : am_Ev X d sh0 shF (pc + 3) l st sh (I, uj J a k x, K) Q) : am_Ev X d sh0 shF pc l (.long x :: .ref a :: st) sh (I, J, K) Q := by
  simp only [Bool.and_eq_true, Nat.beq_eq] at hb
  refine am_put hk hd hs (by simp only [Bool.and_eq_true]; exact hb.1) (fun G => ⟨by rw [hn]; rfl, by rw [hn]; rfl⟩) am_one_j (fun G j hj => ?_) (fun G => ?_) hfin h
  · simp only [am_sv, uj, hj, and_false, if_false]
  · simp only [am_sv, hb.2, uj, and_self, if_true, am_cv]
theorem ev_putr {f k a N idx b : Nat} (hk : am_kD X.1 idx f k) (hd : decode X.2.2.1 pc = .ok (.putfield idx, 3)) (hs : am_nt sh a = some (f, N)) (hb : (Nat.blt 0 a && Nat.blt k N && Nat.beq (am_ft f k) 2) = true) (hi : X.2.1.name = "<init>") (hoc : am_fcl f k = am_cn X.1) (hfin : am_fin f k = true) (hn : (∃ C, am_tyf f k = .object C) ∨ ∃ C, am_tyf f k = .array C) (h : am_Ev X d sh0 shF (pc + 3) l st sh (I, J, uk K a k (some b)) Q) : am_Ev X d sh0 shF pc l (.ref b :: .ref a :: st) sh (I, J, K) Q := by
  simp only [Bool.and_eq_true, Nat.beq_eq] at hb
  refine am_putF hk hd hs (by simp only [Bool.and_eq_true]; exact hb.1) (fun G => ?_) am_one_k (fun G j hj => ?_) (fun G => ?_) hi hoc hfin h
  · rcases hn with ⟨C, hn⟩ | ⟨C, hn⟩ <;> rw [hn] <;> exact ⟨rfl, rfl⟩
  · simp only [am_sv, uk, hj, and_false, if_false]
  · simp only [am_sv, hb.2, uk, and_self, if_true, am_cv]
    rfl
theorem am_vin {j : Int32} {i n : Nat} (hj : j = nI i) (hi : i < n) (hn : Nat.blt n 2147483648 = true) : vp_in j n ∧ j.toNatClampNeg = i := by
  have h : n < 2 ^ 31 := by simpa using hn
  subst hj
  exact ⟨vp_in_nI hi h, nI_clamp (by omega)⟩
theorem ev_iald {a n : Nat} {j : Int32} (i : Nat) (hd : decode X.2.2.1 pc = .ok (.iaload, 1)) (hs : am_nt sh a = some (9, n)) (hj : j = nI i) (hi : i < n) (hn : Nat.blt n 2147483648 = true) (h : am_Ev X d sh0 shF (pc + 1) l (.int (I a i) :: st) sh (I, J, K) Q) : am_Ev X d sh0 shF pc l (.int j :: .ref a :: st) sh (I, J, K) Q := by
  intro p la e R s m args below meth c G Z C HZ ls H locs hL hW hS
  obtain ⟨hv, hc⟩ := am_vin hj hi hn
  have hgo := h p la e R s m args below meth c G Z C HZ ls H locs hL hW hS
  have hsz := hW.size
  obtain ⟨w1, w2, hP, hK, L, w3, hX⟩ := id hW
  by_cases ha : a = 0
  · subst ha
    cases hs.symm.trans w3
    refine va_sld C.1 C.2.1 hX (Nat.lt_of_le_of_lt w1 hsz) (Nat.not_lt.mpr w1) (am_S_self hS) hv hd ?_
    rw [hc]
    exact hgo
  · refine va_iald C.1 C.2.1 hK hP (a - 1) 0 (am_ws_at hs ha) rfl hv hd ?_
    rw [hc]
    exact hgo
theorem ev_alen0 {n : Nat} (hd : decode X.2.2.1 pc = .ok (.arraylength, 1)) (hs : am_nt sh 0 = some (9, n)) (h : am_Ev X d sh0 shF (pc + 1) l (.int (nI n) :: st) sh (I, J, K) Q) : am_Ev X d sh0 shF pc l (.ref 0 :: st) sh (I, J, K) Q := by
  intro p la e R s m args below meth c G Z C HZ ls H locs hL hW hS
  have hgo := h p la e R s m args below meth c G Z C HZ ls H locs hL hW hS
  have hsz := hW.size
  obtain ⟨w1, w2, hP, hK, L, w3, hX⟩ := id hW
  cases hs.symm.trans w3
  exact va_slen C.1 C.2.1 hX (Nat.lt_of_le_of_lt w1 hsz) (Nat.not_lt.mpr w1) (am_S_self hS) hd hgo
theorem ev_lald {a n : Nat} {j : Int32} (i : Nat) (hd : decode X.2.2.1 pc = .ok (.laload, 1)) (hs : am_nt sh a = some (10, n)) (ha : Nat.blt 0 a = true) (hj : j = nI i) (hi : i < n) (hn : Nat.blt n 2147483648 = true) (h : am_Ev X d sh0 shF (pc + 1) l (.long (J a i) :: st) sh (I, J, K) Q) : am_Ev X d sh0 shF pc l (.int j :: .ref a :: st) sh (I, J, K) Q := by
  intro p la e R s m args below meth c G Z C HZ ls H locs hL hW hS
  obtain ⟨hv, hc⟩ := am_vin hj hi hn
  have hgo := h p la e R s m args below meth c G Z C HZ ls H locs hL hW hS
  have ha' : a ≠ 0 := by
    have : 0 < a := by simpa using ha
    omega
  obtain ⟨w1, w2, hP, hK, L, w3, hX⟩ := id hW
  refine va_lald C.1 C.2.1 hK hP (a - 1) 1 (am_ws_at hs ha') rfl hv hd ?_
  rw [hc]
  exact hgo
theorem ev_aald {a n b : Nat} {j : Int32} (i : Nat) (hd : decode X.2.2.1 pc = .ok (.aaload, 1)) (hs : am_nt sh a = some (11, n)) (ha : Nat.blt 0 a = true) (hj : j = nI i) (hi : i < n) (hn : Nat.blt n 2147483648 = true) (hr : K a i = some b) (h : am_Ev X d sh0 shF (pc + 1) l (.ref b :: st) sh (I, J, K) Q) : am_Ev X d sh0 shF pc l (.int j :: .ref a :: st) sh (I, J, K) Q := by
  intro p la e R s m args below meth c G Z C HZ ls H locs hL hW hS
  obtain ⟨hv, hc⟩ := am_vin hj hi hn
  have hgo := h p la e R s m args below meth c G Z C HZ ls H locs hL hW hS
  have ha' : a ≠ 0 := by
    have : 0 < a := by simpa using ha
    omega
  obtain ⟨w1, w2, hP, hK, L, w3, hX⟩ := id hW
  refine va_aldq C.1 C.2.1 hK hP (a - 1) 2 (am_ws_at hs ha') rfl hv hd ?_
  rw [hc]
  show W p la e R s m args below meth c H locs _ _ Z (F0 m (pc + 1) ls (va_rf ((K a i).map (am_up G)) :: st.map (am_cv G)))
  rw [hr]
  exact hgo
theorem ev_iast {a n : Nat} {j : Int32} {x : Int32} (i : Nat) (hd : decode X.2.2.1 pc = .ok (.iastore, 1)) (hs : am_nt sh a = some (9, n)) (ha : Nat.blt 0 a = true) (hj : j = nI i) (hi : i < n) (hn : Nat.blt n 2147483648 = true) (h : am_Ev X d sh0 shF (pc + 1) l st sh (ui I a i x, J, K) Q) : am_Ev X d sh0 shF pc l (.int x :: .int j :: .ref a :: st) sh (I, J, K) Q := by
  intro p la e R s m args below meth c G Z C HZ ls H locs hL hW hS
  obtain ⟨hv, hc⟩ := am_vin hj hi hn
  have ha' : a ≠ 0 := by
    have : 0 < a := by simpa using ha
    omega
  obtain ⟨w1, w2, hP, hK, L, w3, hX⟩ := id hW
  refine va_iast C.1 C.2.1 hK hP (am_ws_D G sh (I, J, K)) (am_S_self hS) (a - 1) 0 (am_ws_at hs ha') rfl hv hd fun H1 locs1 hP1 hD1 hS1 => ?_
  rw [hc] at hP1
  exact am_fin2 C.2.2.2.2.2.2.2.2.2.2.2.2 hW hS hS1 fun hz hS2 => h p la e R s m args below meth c G Z C HZ ls H1 locs1 hL (am_Wset am_one_i hs ha' hW (by
    refine Eq.mp (congrArg (fun z => va_P G.2.2.1 vwCl ((am_ws G sh (I, J, K)).set (a - 1) (am_up G a, z)) H1) ?_) hP1
    simp only [am_en]
    congr 4
    funext z
    simp [ui, upd]) hz hS1) hS2
theorem ev_last {a n : Nat} {j : Int32} {x : Int64} (i : Nat) (hd : decode X.2.2.1 pc = .ok (.lastore, 1)) (hs : am_nt sh a = some (10, n)) (ha : Nat.blt 0 a = true) (hj : j = nI i) (hi : i < n) (hn : Nat.blt n 2147483648 = true) (h : am_Ev X d sh0 shF (pc + 1) l st sh (I, uj J a i x, K) Q) : am_Ev X d sh0 shF pc l (.long x :: .int j :: .ref a :: st) sh (I, J, K) Q := by
  intro p la e R s m args below meth c G Z C HZ ls H locs hL hW hS
  obtain ⟨hv, hc⟩ := am_vin hj hi hn
  have ha' : a ≠ 0 := by
    have : 0 < a := by simpa using ha
    omega
  obtain ⟨w1, w2, hP, hK, L, w3, hX⟩ := id hW
  refine va_last C.1 C.2.1 hK hP (am_ws_D G sh (I, J, K)) (am_S_self hS) (a - 1) 1 (am_ws_at hs ha') rfl hv hd fun H1 locs1 hP1 hD1 hS1 => ?_
  rw [hc] at hP1
  exact am_fin2 C.2.2.2.2.2.2.2.2.2.2.2.2 hW hS hS1 fun hz hS2 => h p la e R s m args below meth c G Z C HZ ls H1 locs1 hL (am_Wset am_one_j hs ha' hW (by
    refine Eq.mp (congrArg (fun z => va_P G.2.2.1 vwCl ((am_ws G sh (I, J, K)).set (a - 1) (am_up G a, z)) H1) ?_) hP1
    simp only [am_en]
    congr 5
    funext z
    simp [uj, vp_updL]) hz hS1) hS2
theorem ev_aast {a n b f N : Nat} {j : Int32} (i : Nat) (hd : decode X.2.2.1 pc = .ok (.aastore, 1)) (hs : am_nt sh a = some (11, n)) (hs2 : am_nt sh b = some (0, N)) (ha : (Nat.blt 0 a && Nat.blt 0 b) = true) (hj : j = nI i) (hi : i < n) (hn : Nat.blt n 2147483648 = true) (h : am_Ev X d sh0 shF (pc + 1) l st sh (I, J, uk K a i (some b)) Q) : am_Ev X d sh0 shF pc l (.ref b :: .int j :: .ref a :: st) sh (I, J, K) Q := by
  intro p la e R s m args below meth c G Z C HZ ls H locs hL hW hS
  obtain ⟨hv, hc⟩ := am_vin hj hi hn
  simp only [Bool.and_eq_true, Nat.blt_eq] at ha
  have ha' : a ≠ 0 := by omega
  have hb' : b ≠ 0 := by omega
  obtain ⟨w1, w2, hP, hK, L, w3, hX⟩ := id hW
  refine va_astq C.1 C.2.1 hK hP (am_ws_D G sh (I, J, K)) (am_S_self hS) (a - 1) 2 (b - 1) 0 (r := (RX0, TX0, 10)) (am_ws_at hs ha') rfl (am_ws_at hs2 hb') rfl hv hd fun H1 locs1 hP1 hD1 hS1 => ?_
  rw [hc] at hP1
  exact am_fin2 C.2.2.2.2.2.2.2.2.2.2.2.2 hW hS hS1 fun hz hS2 => h p la e R s m args below meth c G Z C HZ ls H1 locs1 hL (am_Wset am_one_k hs ha' hW (by
    refine Eq.mp (congrArg (fun z => va_P G.2.2.1 vwCl ((am_ws G sh (I, J, K)).set (a - 1) (am_up G a, z)) H1) ?_) hP1
    simp only [am_en]
    congr 7
    funext z
    by_cases hz : z = i <;> simp [uk, va_up, hz]) hz hS1) hS2
end AMM
/-- a class's link for 'new' -/
def am_kN (oc idx c N : Nat) : Prop := ∃ r : vw_C, vwCl[c]? = some r ∧ r.2.2 = N ∧ Cond.classLink (am_cn oc) idx r.1 ∈ am_wd ∧ Cond.instantiable r.1 N ∈ am_wd ∧ Cond.initialized r.1 ∈ am_wd
theorem am_nt_app {α : Type} {l : List α} {x : α} {i : Nat} {y : α} (h : am_nt l i = some y) : am_nt (l ++ [x]) i = some y := by
  have hl := am_nt_lt h
  rw [am_nt_get] at h ⊢
  rw [List.getElem?_append_left hl]
  exact h
theorem am_nt_last {α : Type} (l : List α) (x : α) : am_nt (l ++ [x]) l.length = some x := by
  rw [am_nt_get]
  simp
theorem am_ws_push {G : am_G} {sh : am_S} {M M' : am_M} {q : Nat × Nat} (h0 : 0 < sh.length) (h1 : am_one M M' sh.length) : am_ws G (sh ++ [q]) M' = am_ws G sh M ++ [(G.2.1 + sh.length, am_en G M' sh.length q)] := by
  apply List.ext_getElem?
  intro k
  rcases Nat.lt_trichotomy k (sh.length - 1) with hk | hk | hk
  · rw [List.getElem?_append_left (by rw [am_ws_len]; exact hk)]
    have hk2 : k < (sh ++ [q]).length - 1 := by simp; omega
    have hx : am_nt (sh ++ [q]) (k + 1) = am_nt sh (k + 1) := by
      rw [am_nt_get, am_nt_get, List.getElem?_append_left (by omega)]
    simp only [am_ws, List.getElem?_map, List.getElem?_range hk, List.getElem?_range hk2, Option.map_some, hx]
    rw [am_en_one h1 (by omega)]
  · subst hk
    rw [List.getElem?_append_right (by rw [am_ws_len]; exact Nat.le_refl _), am_ws_len, Nat.sub_self]
    have hk2 : sh.length - 1 < (sh ++ [q]).length - 1 := by simp; omega
    have e : sh.length - 1 + 1 = sh.length := by omega
    simp only [am_ws, List.getElem?_map, List.getElem?_range hk2, Option.map_some, e, am_nt_last, Option.getD_some]
    rfl
  · rw [List.getElem?_eq_none (by rw [am_ws_len]; simp; omega), List.getElem?_eq_none (by simp [am_ws_len]; omega)]
theorem am_tot_app {sh : am_S} (q : Nat × Nat) (h0 : 0 < sh.length) : am_tot (sh ++ [q]) = am_tot sh + q.2 := by
  cases sh with
  | nil => simp at h0
  | cons x r =>
    simp only [List.cons_append, am_tot]
    clear h0
    induction r with
    | nil => simp
    | cons y r ih => simp only [List.cons_append, List.foldr_cons, ih]; omega
/-- the world with one more cell -/
theorem am_Wpush {G : am_G} {sh : am_S} {M M' : am_M} {q : Nat × Nat} {s : State} {H H1 : Heap} (h1 : am_one M M' sh.length) (hW : am_W G sh M s H) (hz : H1.size = H.size + 1) (ho : ∀ k : Nat, k < H.size → H1[k]? = H[k]?) (hc : va_at G.2.2.1 vwCl (G.2.1 + sh.length, am_en G M' sh.length q) H1) : am_W G (sh ++ [q]) M' s H1 := by
  have hsz := hW.size
  obtain ⟨h2, h3, h4, h5, L, h6, h7⟩ := hW
  have h0 := am_nt_lt h6
  refine ⟨h2, by rw [hz, h3]; simp; omega, ?_, h5, L, am_nt_app h6, ?_⟩
  · rw [am_ws_push h0 h1]
    refine va_P.app (h4.kept fun k x hx => ho _ (h4 k x hx).lt) fun k x hx => ?_
    have hk : k = 0 := by
      have := (List.getElem?_eq_some_iff.mp hx).1
      simpa using this
    subst hk
    cases hx
    exact hc
  · rw [(h1 0 (by omega)).1]
    exact h7.kept (ho _ (Nat.lt_of_le_of_lt h2 hsz))
theorem am_Spush {A : Nat → Prop} {H0 H H1 : Heap} {locs : List Loc} (h : va_S A H0 H locs) (hz : H1.size = H.size + 1) (ho : ∀ k : Nat, k < H.size → H1[k]? = H[k]?) : va_S A H0 H1 locs :=
  ⟨Nat.le_trans h.1 (by omega), fun q a b => by rw [ho q (Nat.lt_of_lt_of_le a h.1)]; exact h.2.1 q a b, h.2.2⟩
theorem am_kpush {sh0 sh : am_S} {q : Nat × Nat} (h : sh0.length ≤ sh.length) : am_k sh0 (sh ++ [q]) = am_k sh0 sh + 1 := by
  simp only [am_k, List.length_append, List.length_cons, List.length_nil]
  omega
theorem am_npush {sh0 sh : am_S} {q : Nat × Nat} (h0 : 0 < sh.length) (h : am_tot sh0 ≤ am_tot sh) : am_n sh0 (sh ++ [q]) = am_n sh0 sh + q.2 := by
  simp only [am_n, am_tot_app q h0]
  omega
section AMN
variable {X : am_me} {d : Nat} {sh0 shF sh : am_S} {pc : Nat} {l : List (Option Value)} {st : List Value} {I : Nat → Nat → Int32} {J : Nat → Nat → Int64} {K : Nat → Nat → Option Nat} {Q : Option Value → am_M → Prop}
theorem ev_new {idx f N a : Nat} (hk : am_kN X.1 idx f N) (hd : decode X.2.2.1 pc = .ok (.new idx, 3)) (ha : sh.length = a) (hF : (Nat.blt a shF.length && Nat.ble (am_tot sh0) (am_tot sh) && Nat.ble (am_tot sh + N) (am_tot shF)) = true) (h : am_Ev X d sh0 shF (pc + 3) l (.ref a :: st) (sh ++ [(f, N)]) (ci I a, cj J a, ck K a) Q) : am_Ev X d sh0 shF pc l st sh (I, J, K) Q := by
  subst ha
  intro p la e R s m args below meth c G Z C HZ ls H locs hL hW hS
  obtain ⟨r, hr, hN, hl1, hl2, hl3⟩ := hk
  subst hN
  have hcl := am_clsOf hr
  simp only [Bool.and_eq_true, Nat.blt_eq, Nat.ble_eq] at hF
  obtain ⟨⟨f1, f2⟩, f3⟩ := hF
  have hs0 := C.2.2.2.2.2.2.2.2.2.2.2.2
  have hsz := hW.size
  obtain ⟨w1, w2, hP, hK, L, w3, hX⟩ := id hW
  have h0 := am_nt_lt w3
  have hle : sh0.length ≤ sh.length := by
    have := hS.1
    omega
  have hKn := hK.1 f _ hr
  have hu : am_up G sh.length = G.2.1 + sh.length := by unfold am_up; rw [if_neg (by omega)]
  refine W.newcK C.1 C.2.1 C.2.2.2.1 (C.2.2.2.2.1 _ hl1) (C.2.2.2.2.1 _ hl2) (C.2.2.2.2.1 _ hl3) rfl hd ?_ ?_ hKn.2.1 w2 fun H1 kC hkC e1 z1 o1 => ?_
  · have := C.2.2.2.2.2.2.2.2.2.1
    unfold am_k at this ⊢
    omega
  · have := C.2.2.2.2.2.2.2.2.2.2.1
    unfold am_n at this ⊢
    omega
  have hat : va_at G.2.2.1 vwCl (G.2.1 + sh.length, am_en G (ci I sh.length, cj J sh.length, ck K sh.length) sh.length (f, r.2.2)) H1 := by
    rw [am_en_obj hcl.2.2.2.2.2]
    refine ⟨r, hr, (u_born (am_tyf f) C.2.2.2.2.1 hcl.1 hKn hkC e1 hcl.2.1).to fun j hj => ?_⟩
    rw [hcl.2.2.2.1 j hj]
    simp only [vp_V]
    rw [List.getD_eq_getElem?_getD, List.getElem?_map, List.getElem?_range hj]
    simp only [Option.map_some, Option.getD_some, am_sv, ci, cj, ck, if_true]
    generalize am_ft f j = t
    match t with
    | 0 => rfl
    | 1 => rfl
    | n + 2 => rfl
  rw [← w2] at z1 o1
  have hgo := h p la e R s m args below meth c G Z C HZ ls H1 locs hL (am_Wpush am_one_c hW z1 o1 hat) (am_Spush hS z1 o1)
  rw [am_kpush hle, am_npush h0 f2] at hgo
  rw [← hu]
  exact hgo
theorem ev_newa {a N : Nat} {t : ArrayType} {n : Int32} (q : Nat) (hq : (t = .int ∧ q = 9) ∨ (t = .long ∧ q = 10)) (hd : decode X.2.2.1 pc = .ok (.newarray t, 2)) (ha : sh.length = a) (hn : n = nI N) (hF : (Nat.blt a shF.length && Nat.ble (am_tot sh0) (am_tot sh) && Nat.ble (am_tot sh + N) (am_tot shF) && Nat.ble N 10000) = true) (h : am_Ev X d sh0 shF (pc + 2) l (.ref a :: st) (sh ++ [(q, N)]) (ci I a, cj J a, ck K a) Q) : am_Ev X d sh0 shF pc l (.int n :: st) sh (I, J, K) Q := by
  subst ha
  subst hn
  intro p la e R s m args below meth c G Z C HZ ls H locs hL hW hS
  simp only [Bool.and_eq_true, Nat.blt_eq, Nat.ble_eq] at hF
  obtain ⟨⟨⟨f1, f2⟩, f3⟩, f4⟩ := hF
  have hs0 := C.2.2.2.2.2.2.2.2.2.2.2.2
  have hsz := hW.size
  obtain ⟨w1, w2, hP, hK, L, w3, hX⟩ := id hW
  have h0 := am_nt_lt w3
  have hle : sh0.length ≤ sh.length := by
    have := hS.1
    omega
  have hu : am_up G sh.length = G.2.1 + sh.length := by unfold am_up; rw [if_neg (by omega)]
  have hc1 : am_k sh0 sh + 1 ≤ R.cells := by
    have := C.2.2.2.2.2.2.2.2.2.1
    unfold am_k at this ⊢
    omega
  have hc2 : am_n sh0 sh + N ≤ R.slots := by
    have := C.2.2.2.2.2.2.2.2.2.2.1
    unfold am_n at this ⊢
    omega
  have go : ∀ (H1 : Heap) (cA : ClassId), H1[G.2.1 + sh.length]? = some (arrV cA N (fun _ => defaultValue (newarray.typeOf t))) → H1.size = G.2.1 + sh.length + 1 → (∀ z, z < G.2.1 + sh.length → H1[z]? = H[z]?) → ArrOfT s cA (newarray.typeOf t) → s.vm.findClass ("[" ++ (newarray.typeOf t).toString) = some cA → W p la e R s m args below meth c H1 locs (am_k sh0 sh + 1) (am_n sh0 sh + N) Z (F0 m (pc + 2) ls (.ref (G.2.1 + sh.length) :: st.map (am_cv G))) := by
    intro H1 cA e1 z1 o1 hA hf
    have hat : va_at G.2.2.1 vwCl (G.2.1 + sh.length, am_en G (ci I sh.length, cj J sh.length, ck K sh.length) sh.length (q, N)) H1 := by
      rcases hq with ⟨rfl, rfl⟩ | ⟨rfl, rfl⟩
      · have e2 : cA = G.2.2.2.1 := Option.some.inj (hf.symm.trans (hK.2 0 _ rfl).2)
        subst e2
        show H1[G.2.1 + sh.length]? = some (vp_cell _ (N, .inl (ci I sh.length sh.length)))
        rw [e1, vp_cell_i]
        congr 2
        funext z
        simp only [ci, if_true]
        rfl
      · have e2 : cA = G.2.2.2.2.1 := Option.some.inj (hf.symm.trans (hK.2 1 _ rfl).2)
        subst e2
        show H1[G.2.1 + sh.length]? = some (vp_cell _ (N, .inr (.inl (cj J sh.length sh.length))))
        rw [e1, vp_cell_l]
        congr 2
        funext z
        simp only [cj, if_true]
        rfl
    rw [← w2] at z1 o1
    have hgo := h p la e R s m args below meth c G Z C HZ ls H1 locs hL (am_Wpush am_one_c hW z1 o1 hat) (am_Spush hS z1 o1)
    rw [am_kpush hle, am_npush h0 f2] at hgo
    rw [← hu]
    exact hgo
  have hN : (nI N).toNatClampNeg = N := nI_clamp (by omega)
  have hneg : ¬ nI N < 0 := nI_pos (by omega)
  rcases hq with ⟨rfl, rfl⟩ | ⟨rfl, rfl⟩
  · exact va_newaK (atype := .int) C.1 C.2.1 (C.2.2.2.2.1 _ am_acI) rfl hd rfl hneg hN (by show N * 4 ≤ _; omega) hc1 hc2 w2 go
  · exact va_newaK (atype := .long) C.1 C.2.1 (C.2.2.2.2.1 _ am_acJ) rfl hd rfl hneg hN (by show N * 8 ≤ _; omega) hc1 hc2 w2 go
theorem ev_anew {a N idx : Nat} {n : Int32} (hk : Cond.classLink (am_cn X.1) idx "UndeleteDesks$Disk" ∈ am_wd) (hd : decode X.2.2.1 pc = .ok (.anewarray idx, 3)) (ha : sh.length = a) (hn : n = nI N) (hF : (Nat.blt a shF.length && Nat.ble (am_tot sh0) (am_tot sh) && Nat.ble (am_tot sh + N) (am_tot shF) && Nat.ble N 10000) = true) (h : am_Ev X d sh0 shF (pc + 3) l (.ref a :: st) (sh ++ [(11, N)]) (ci I a, cj J a, ck K a) Q) : am_Ev X d sh0 shF pc l (.int n :: st) sh (I, J, K) Q := by
  subst ha
  subst hn
  intro p la e R s m args below meth c G Z C HZ ls H locs hL hW hS
  simp only [Bool.and_eq_true, Nat.blt_eq, Nat.ble_eq] at hF
  obtain ⟨⟨⟨f1, f2⟩, f3⟩, f4⟩ := hF
  have hs0 := C.2.2.2.2.2.2.2.2.2.2.2.2
  have hsz := hW.size
  obtain ⟨w1, w2, hP, hK, L, w3, hX⟩ := id hW
  have h0 := am_nt_lt w3
  have hle : sh0.length ≤ sh.length := by
    have := hS.1
    omega
  have hu : am_up G sh.length = G.2.1 + sh.length := by unfold am_up; rw [if_neg (by omega)]
  have hc1 : am_k sh0 sh + 1 ≤ R.cells := by
    have := C.2.2.2.2.2.2.2.2.2.1
    unfold am_k at this ⊢
    omega
  have hc2 : am_n sh0 sh + N ≤ R.slots := by
    have := C.2.2.2.2.2.2.2.2.2.2.1
    unfold am_n at this ⊢
    omega
  have hN : (nI N).toNatClampNeg = N := nI_clamp (by omega)
  have hneg : ¬ nI N < 0 := nI_pos (by omega)
  refine W.anew C.1 C.2.1 C.2.2.2.1 (C.2.2.2.2.1 _ hk) (va_AO.use C.2.2.2.2.2.1.2) rfl hd rfl hneg (by rw [hN]; omega) hc1 (by rw [hN]; exact hc2) fun cA kA comp g1 g2 g3 g4 => ?_
  rw [hN]
  generalize hH1 : H.push ({ cls := cA, slots := Array.replicate N .null, vm := .none } : Cell) = H1
  have z1 : H1.size = H.size + 1 := by rw [← hH1, Array.size_push]
  have e1 : H1[H.size]? = some (arrV cA N (fun _ => .null)) := by rw [← hH1, Array.getElem?_push_size, ← arrV_new]
  have o1 : ∀ z : Nat, z < H.size → H1[z]? = H[z]? := fun z hz => by rw [← hH1, Array.getElem?_push, if_neg (Nat.ne_of_lt hz)]
  have hat : va_at G.2.2.1 vwCl (G.2.1 + sh.length, am_en G (ci I sh.length, cj J sh.length, ck K sh.length) sh.length (11, N)) H1 := by
    obtain ⟨kB, cmp, -, -, -, hB⟩ := (hK.2 2 _ rfl).2
    have e2 : cA = G.2.2.2.2.2 := Option.some.inj (g1.symm.trans hB)
    subst e2
    show H1[G.2.1 + sh.length]? = some (vp_cell _ (N, .inr (.inr (.inr (.inr (fun k => (ck K sh.length sh.length k).map (am_up G)))))))
    rw [← w2, e1, vp_cell_q]
    congr 2
    funext z
    simp only [ck, if_true]
    rfl
  have hgo := h p la e R s m args below meth c G Z C HZ ls H1 locs hL (am_Wpush am_one_c hW z1 o1 hat) (am_Spush hS z1 o1)
  rw [am_kpush hle, am_npush h0 f2] at hgo
  rw [w2, ← hu]
  exact hgo
end AMN
