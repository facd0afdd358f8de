/-! ===== calls ===== -/
def am_mo (Y : am_me) : Prop := Cond.code Y.2.1 Y.2.2.1 Y.2.2.2.1 Y.2.2.2.2.1 ∈ am_wd ∧ Cond.initialized Y.2.1.cls ∈ am_wd ∧ Y.2.1.cls ≠ "java/lang/invoke/MethodHandle" ∧ Y.2.1.cls ≠ "java/lang/invoke/VarHandle" ∧ (parseMethodDescriptor Y.2.1.desc).map (fun d => d.parameters.length) = some Y.2.2.2.2.2 ∧ Y.2.2.2.1 ≤ 21
def am_kV (oc idx : Nat) (Y : am_me) : Prop := am_mo Y ∧ Cond.methodLink (am_cn oc) idx Y.2.1 ∈ am_wd ∧ Cond.instanceMethod Y.2.1 ∈ am_wd ∧ Cond.selects Y.2.1.cls Y.2.1 Y.2.1 ∈ am_wd ∧ ∃ r : vw_C, vwCl[Y.1]? = some r ∧ r.1 = Y.2.1.cls
def am_kS (oc idx : Nat) (Y : am_me) : Prop := am_mo Y ∧ Cond.methodLink (am_cn oc) idx Y.2.1 ∈ am_wd ∧ Cond.static Y.2.1 ∈ am_wd
def am_kI (oc idx : Nat) (Y : am_me) : Prop := am_mo Y ∧ (Cond.methodLink (am_cn oc) idx Y.2.1 ∈ am_wd ∨ ∃ host, Cond.methodLinkNest (am_cn oc) idx Y.2.1 host ∈ am_nw) ∧ Cond.instanceMethod Y.2.1 ∈ am_wd ∧ Y.2.1.name = "<init>" ∧ Y.2.2.2.2.1 = none
def am_sp : Nat → List Value → List Value → Option (List Value × List Value)
  | 0, st, acc => some (acc, st)
  | _ + 1, [], _ => none
  | n + 1, v :: st, acc => am_sp n st (v :: acc)
theorem am_sp_ok : ∀ (n : Nat) (st acc As rest : List Value), am_sp n st acc = some (As, rest) → ∃ Bs, As = Bs ++ acc ∧ st = Bs.reverse ++ rest ∧ Bs.length = n
  | 0, st, acc, As, rest, h => by cases h; exact ⟨[], rfl, rfl, rfl⟩
  | n + 1, [], acc, As, rest, h => by cases h
  | n + 1, v :: st, acc, As, rest, h => by
    obtain ⟨Bs, h1, h2, h3⟩ := am_sp_ok n st (v :: acc) As rest h
    refine ⟨Bs ++ [v], by rw [h1]; simp, by rw [h2]; simp, by simp [h3]⟩
theorem am_sp_0 {n : Nat} {st As rest : List Value} (h : am_sp n st [] = some (As, rest)) : st = As.reverse ++ rest ∧ As.length = n := by
  obtain ⟨Bs, h1, h2, h3⟩ := am_sp_ok _ _ _ _ _ h
  rw [List.append_nil] at h1
  subst h1
  exact ⟨h2, h3⟩
def am_cs : List Value → Nat
  | [] => 0
  | .long _ :: r => am_cs r + 2
  | .double _ :: r => am_cs r + 2
  | _ :: r => am_cs r + 1
theorem am_cs_ok (G : am_G) : ∀ st : List Value, ((st.map (am_cv G)).map fun v => v.category).sum = am_cs st
  | [] => rfl
  | v :: r => by
    have ih := am_cs_ok G r
    simp only [List.map_cons, List.sum_cons, ih, am_cat]
    cases v <;> simp [am_cs, Value.category] <;> omega
theorem am_blind {av : List Value} {G : am_G} {sh : am_S} {M : am_M} : FrameBlind (va_Pc av (fun U => am_W G sh M U U.heap ∧ am_N U)) := fun a U g mk q => ⟨q.1, am_W.moved (u := U) (U := U.calling g mk a) (Vm.Alike.refl U.vm) q.2.1, am_N.same (u := U) (U := U.calling g mk a) rfl q.2.2⟩
section AMK
variable {p : Program} {la : Launch} {e : Env} {R : Room} {s : State} {m : MethodId} {args : Array Value} {below : List Frame} {meth : Method} {c : Code} {H : Heap} {locs : List Loc} {cells slots mc ms : Nat} {Z : State → Prop}
theorem am_after {G : am_G} {sh1 : am_S} {Qc : Option Value → am_M → Prop} {pc : Nat} {ls : Array Slot} {st0 rest : List Value} {a : Array Value} {H0 : Heap} (hr : va_Run p la e R s m args below meth c H locs cells slots mc ms (F0 m pc ls st0) rest (am_Q G sh1 Qc a) (am_A G)) (hS : va_S (am_A G) H0 H locs)
    (kk : ∀ (v : Option Value) (M1 : am_M) (H1 : Heap) (locs1 : List Loc), Qc v M1 → am_W G sh1 M1 s H1 → H.size ≤ H1.size → va_S (am_A G) H0 H1 locs1 → W p la e R s m args below meth c H1 locs1 (cells + mc) (slots + ms) Z (F0 m (pc + 3) ls ((v.map (am_cv G)).toList ++ rest))) : W p la e R s m args below meth c H locs cells slots Z (F0 m pc ls st0) := by
  intro T hT X
  obtain ⟨v, st₀, t, T', L, h0, X', hL, e1, e2, ⟨⟨u, M1, hq, ho, hw⟩, hz, hk⟩, st⟩ := hr T hT X
  cases ho
  rw [h0] at hz hk
  have hal : s.vm.Alike t.vm := by rw [← e2]; exact X'.warmed.alike
  obtain ⟨t2, a1, b1⟩ := kk u M1 T'.heap (locs ++ L) hq (by rw [e1]; exact hw.moved hal.symm) (by rw [e1]; exact hz)
    ⟨Nat.le_trans hS.1 (by rw [e1]; exact hz), fun q h1 h2 => by rw [e1, hk q (Nat.lt_of_lt_of_le h1 hS.1) h2]; exact hS.2.1 q h1 h2, fun q hq => by
      rcases List.mem_append.mp hq with h | h
      · exact hS.2.2 q h
      · exact hL q h⟩ T' rfl X'
  exact ⟨t2, st t2 a1, b1⟩
end AMK
theorem am_oI : Cond.instanceMethod objectInit ∈ am_wd := am_in (i := 70) (by decide +kernel)
theorem am_oC : Cond.code objectInit ⟨#[0xb1]⟩ 1 none ∈ am_wd := am_in (i := 71) (by decide +kernel)
theorem am_mS : Cond.static Lib.Math.min.name ∈ am_wd := am_in (i := 448) (by decide +kernel)
theorem am_mC : Cond.code Lib.Math.min.name Lib.Math.min.code 2 (some .int) ∈ am_wd := am_in (i := 449) (by decide +kernel)
theorem am_xS : Cond.static Lib.Math.max.name ∈ am_wd := am_in (i := 654) (by decide +kernel)
theorem am_xC : Cond.code Lib.Math.max.name Lib.Math.max.code 2 (some .int) ∈ am_wd := am_in (i := 655) (by decide +kernel)
theorem am_mI : Cond.initialized "java/lang/Math" ∈ am_wd := am_in (i := 63) (by decide +kernel)
theorem am_cN : Cond.native arraycopyName ∈ am_wd := am_in (i := 339) (by decide +kernel)
theorem am_cS : Cond.static arraycopyName ∈ am_wd := am_in (i := 338) (by decide +kernel)
theorem am_cI : Cond.initialized "java/lang/System" ∈ am_wd := am_in (i := 61) (by decide +kernel)
section AMC
variable {X : am_me} {d : Nat} {sh0 shF sh sh1 : am_S} {pc : Nat} {l : List (Option Value)} {st : List Value} {I : Nat → Nat → Int32} {J : Nat → Nat → Int64} {K : Nat → Nat → Option Nat} {Q : Option Value → am_M → Prop}
def am_le (sh0 sh sh1 shF : am_S) : Prop := sh.length ≤ sh1.length ∧ sh1.length ≤ shF.length ∧ am_tot sh0 ≤ am_tot sh ∧ am_tot sh ≤ am_tot sh1 ∧ am_tot sh1 ≤ am_tot shF
theorem am_le_rf : am_le sh sh sh sh := ⟨Nat.le_refl _, Nat.le_refl _, Nat.le_refl _, Nat.le_refl _, Nat.le_refl _⟩
theorem ev_invVg {idx : Nat} {Y : am_me} {As rest : List Value} {a N : Nat} (hk : am_kV X.1 idx Y) (hd : decode X.2.2.1 pc = .ok (.invokevirtual idx, 3)) (hsp : am_sp Y.2.2.2.2.2 st [] = some (As, .ref a :: rest)) (hs : am_nt sh a = some (Y.1, N)) (ha : Nat.blt 0 a = true) (hdd : 1 ≤ d) (hw : Nat.ble (am_cs rest) 8 = true) (hle : am_le sh0 sh sh1 shF) (hM : am_Mt (d - 1) Y (.ref a :: As) sh sh1 (I, J, K) (fun v M1 => am_Ev X d sh0 shF (pc + 3) l (v.toList ++ rest) sh1 M1 Q)) : am_Ev X d sh0 shF pc l st sh (I, J, K) Q := by
  obtain ⟨hst, hn⟩ := am_sp_0 hsp
  subst hst
  intro p la e R s m args below meth c G Z C HZ ls H locs hL hW hS
  obtain ⟨⟨k1, k2, k3, k4, k5, k6⟩, kr⟩ := hk
  have hM' := hM la G
  have hsz := hW.2.1
  have hs0 := C.2.2.2.2.2.2.2.2.2.2.2.2
  have hlen : sh0.length ≤ sh.length := by
    have := hS.1
    omega
  obtain ⟨e1, e2, e3, e4, e5⟩ := hle
  have hfr : d - 1 + 1 ≤ R.frames ∧ 8 + (Y.2.2.2.1 + 11) + (40 * (d - 1) + 40) ≤ R.locals := by
    have := C.2.2.2.2.2.2.2.1
    have := C.2.2.2.2.2.2.2.2.1
    omega
  have hrm : am_k sh0 sh + am_k sh sh1 ≤ R.cells ∧ am_n sh0 sh + am_n sh sh1 ≤ R.slots := by
    have := C.2.2.2.2.2.2.2.2.2.1
    have := C.2.2.2.2.2.2.2.2.2.2.1
    unfold am_k am_n at *
    omega
  have hkk : am_k sh0 sh + am_k sh sh1 = am_k sh0 sh1 := by unfold am_k; omega
  have hnn : am_n sh0 sh + am_n sh sh1 = am_n sh0 sh1 := by unfold am_n; omega
  have hgood : GoodIn am_wd (Cond.code Y.2.1 Y.2.2.1 Y.2.2.2.1 Y.2.2.2.2.1 :: am_wd) := am_wd_good fun w hw => by
    rcases List.mem_cons.mp hw with rfl | hw
    · exact k1
    · exact hw
  have hstk : ((As.reverse ++ .ref a :: rest).map (am_cv G)) = (As.map (am_cv G)).reverse ++ .ref (am_up G a) :: rest.map (am_cv G) := by simp [am_cv]
  have hrest : 2 * (F0 m pc ls (((As.reverse ++ .ref a :: rest).map (am_cv G)))).monitorRoom + ((rest.map (am_cv G)).map fun v => v.category).sum ≤ 8 := by
    show 2 * 0 + _ ≤ 8
    rw [am_cs_ok]
    have := Nat.le_of_ble_eq_true hw
    omega
  have kk : ∀ (v : Option Value) (M1 : am_M) (H1 : Heap) (locs1 : List Loc), am_Ev X d sh0 shF (pc + 3) l (v.toList ++ rest) sh1 M1 Q → am_W G sh1 M1 s H1 → H.size ≤ H1.size → va_S (am_A G) s.heap H1 locs1 → W p la e R s m args below meth c H1 locs1 (am_k sh0 sh + am_k sh sh1) (am_n sh0 sh + am_n sh sh1) Z (F0 m (pc + 3) ls ((v.map (am_cv G)).toList ++ rest.map (am_cv G))) := by
    intro v M1 H1 locs1 hev hW1 hz hS1
    have hgo := hev p la e R s m args below meth c G Z C HZ ls H1 locs1 hL hW1 hS1
    rw [hkk, hnn]
    cases v <;> exact hgo
  obtain ⟨kl, ki, ks, r, hr, hrc⟩ := kr
  have ha' : a ≠ 0 := by
    have : 0 < a := by simpa using ha
    omega
  have hcl := am_clsOf hr
  obtain ⟨w1, w2, hP, hK, w3⟩ := id hW
  have he := am_ws_at (G := G) (M := (I, J, K)) hs ha'
  rw [am_en_obj hcl.2.2.2.2.2] at he
  refine am_after (va_runV (As := As.map (am_cv G)) (rest := rest.map (am_cv G)) ⟨C.1, C.2.1, C.2.2.1, C.2.2.2.1, C.2.2.2.2.1⟩ hM' (cwV Y.2.2.2.2.2 C.2.2.2.2.1 (am_wd_good fun w hw => ?_) rfl rfl rfl ⟨rfl, k3, k4, k5⟩ hfr) ⟨am_blind, ?_, fun U hU hWm => ⟨rfl, ?_, C.2.2.2.2.2.1.warm hWm⟩⟩ rfl (by simpa using hn) hL.1 hstk hrest hd hrm) hS kk
  · rcases List.mem_append.mp hw with hw | hw
    · simp only [List.mem_cons, List.not_mem_nil, or_false] at hw
      rcases hw with rfl | rfl | rfl | rfl
      · exact kl
      · exact ki
      · exact ks
      · exact k2
    · rcases List.mem_cons.mp hw with rfl | hw
      · exact k1
      · exact hw
  · have := va_recv hK hP hr he
    rw [hrc] at this
    exact this
  · rw [hU]
    exact hW.moved hWm.alike
theorem ev_invSg {idx : Nat} {Y : am_me} {As rest : List Value} (hk : am_kS X.1 idx Y) (hd : decode X.2.2.1 pc = .ok (.invokestatic idx, 3)) (hsp : am_sp Y.2.2.2.2.2 st [] = some (As, rest)) (hdd : 1 ≤ d) (hw : Nat.ble (am_cs rest) 8 = true) (hle : am_le sh0 sh sh1 shF) (hM : am_Mt (d - 1) Y As sh sh1 (I, J, K) (fun v M1 => am_Ev X d sh0 shF (pc + 3) l (v.toList ++ rest) sh1 M1 Q)) : am_Ev X d sh0 shF pc l st sh (I, J, K) Q := by
  obtain ⟨hst, hn⟩ := am_sp_0 hsp
  subst hst
  intro p la e R s m args below meth c G Z C HZ ls H locs hL hW hS
  obtain ⟨⟨k1, k2, k3, k4, k5, k6⟩, kr⟩ := hk
  have hM' := hM la G
  have hsz := hW.2.1
  have hs0 := C.2.2.2.2.2.2.2.2.2.2.2.2
  have hlen : sh0.length ≤ sh.length := by
    have := hS.1
    omega
  obtain ⟨e1, e2, e3, e4, e5⟩ := hle
  have hfr : d - 1 + 1 ≤ R.frames ∧ 8 + (Y.2.2.2.1 + 11) + (40 * (d - 1) + 40) ≤ R.locals := by
    have := C.2.2.2.2.2.2.2.1
    have := C.2.2.2.2.2.2.2.2.1
    omega
  have hrm : am_k sh0 sh + am_k sh sh1 ≤ R.cells ∧ am_n sh0 sh + am_n sh sh1 ≤ R.slots := by
    have := C.2.2.2.2.2.2.2.2.2.1
    have := C.2.2.2.2.2.2.2.2.2.2.1
    unfold am_k am_n at *
    omega
  have hkk : am_k sh0 sh + am_k sh sh1 = am_k sh0 sh1 := by unfold am_k; omega
  have hnn : am_n sh0 sh + am_n sh sh1 = am_n sh0 sh1 := by unfold am_n; omega
  have hgood : GoodIn am_wd (Cond.code Y.2.1 Y.2.2.1 Y.2.2.2.1 Y.2.2.2.2.1 :: am_wd) := am_wd_good fun w hw => by
    rcases List.mem_cons.mp hw with rfl | hw
    · exact k1
    · exact hw
  have hstk : ((As.reverse ++ rest).map (am_cv G)) = (As.map (am_cv G)).reverse ++ rest.map (am_cv G) := by simp [am_cv]
  have hrest : 2 * (F0 m pc ls (((As.reverse ++ rest).map (am_cv G)))).monitorRoom + ((rest.map (am_cv G)).map fun v => v.category).sum ≤ 8 := by
    show 2 * 0 + _ ≤ 8
    rw [am_cs_ok]
    have := Nat.le_of_ble_eq_true hw
    omega
  have kk : ∀ (v : Option Value) (M1 : am_M) (H1 : Heap) (locs1 : List Loc), am_Ev X d sh0 shF (pc + 3) l (v.toList ++ rest) sh1 M1 Q → am_W G sh1 M1 s H1 → H.size ≤ H1.size → va_S (am_A G) s.heap H1 locs1 → W p la e R s m args below meth c H1 locs1 (am_k sh0 sh + am_k sh sh1) (am_n sh0 sh + am_n sh sh1) Z (F0 m (pc + 3) ls ((v.map (am_cv G)).toList ++ rest.map (am_cv G))) := by
    intro v M1 H1 locs1 hev hW1 hz hS1
    have hgo := hev p la e R s m args below meth c G Z C HZ ls H1 locs1 hL hW1 hS1
    rw [hkk, hnn]
    cases v <;> exact hgo
  obtain ⟨kl, ks⟩ := kr
  have ht := C.2.2.2.2.1
  refine am_after (va_runS (As := As.map (am_cv G)) (rest := rest.map (am_cv G)) ⟨C.1, C.2.1, C.2.2.1, C.2.2.2.1, C.2.2.2.2.1⟩ hM' ⟨callB_of Y.2.2.2.2.2 ht hgood rfl rfl rfl (ht _ k2) (ht _ kl) ⟨k3, k4, k5⟩ hfr, ht _ ks⟩ ⟨am_blind, fun U hU hWm => ⟨rfl, ?_, C.2.2.2.2.2.1.warm hWm⟩⟩ rfl (by simpa using hn) hL.1 hstk hrest hd hrm) hS kk
  rw [hU]
  exact hW.moved hWm.alike
theorem ev_invIg {idx : Nat} {Y : am_me} {As rest : List Value} {a : Nat} (hk : am_kI X.1 idx Y) (hd : decode X.2.2.1 pc = .ok (.invokespecial idx, 3)) (hsp : am_sp Y.2.2.2.2.2 st [] = some (As, .ref a :: rest)) (hdd : 1 ≤ d) (hw : Nat.ble (am_cs rest) 8 = true) (hle : am_le sh0 sh sh1 shF) (hM : am_Mt (d - 1) Y (.ref a :: As) sh sh1 (I, J, K) (fun v M1 => am_Ev X d sh0 shF (pc + 3) l (v.toList ++ rest) sh1 M1 Q)) : am_Ev X d sh0 shF pc l st sh (I, J, K) Q := by
  obtain ⟨hst, hn⟩ := am_sp_0 hsp
  subst hst
  intro p la e R s m args below meth c G Z C HZ ls H locs hL hW hS
  obtain ⟨⟨k1, k2, k3, k4, k5, k6⟩, kr⟩ := hk
  have hM' := hM la G
  have hsz := hW.2.1
  have hs0 := C.2.2.2.2.2.2.2.2.2.2.2.2
  have hlen : sh0.length ≤ sh.length := by
    have := hS.1
    omega
  obtain ⟨e1, e2, e3, e4, e5⟩ := hle
  have hfr : d - 1 + 1 ≤ R.frames ∧ 8 + (Y.2.2.2.1 + 11) + (40 * (d - 1) + 40) ≤ R.locals := by
    have := C.2.2.2.2.2.2.2.1
    have := C.2.2.2.2.2.2.2.2.1
    omega
  have hrm : am_k sh0 sh + am_k sh sh1 ≤ R.cells ∧ am_n sh0 sh + am_n sh sh1 ≤ R.slots := by
    have := C.2.2.2.2.2.2.2.2.2.1
    have := C.2.2.2.2.2.2.2.2.2.2.1
    unfold am_k am_n at *
    omega
  have hkk : am_k sh0 sh + am_k sh sh1 = am_k sh0 sh1 := by unfold am_k; omega
  have hnn : am_n sh0 sh + am_n sh sh1 = am_n sh0 sh1 := by unfold am_n; omega
  have hgood : GoodIn am_wd (Cond.code Y.2.1 Y.2.2.1 Y.2.2.2.1 Y.2.2.2.2.1 :: am_wd) := am_wd_good fun w hw => by
    rcases List.mem_cons.mp hw with rfl | hw
    · exact k1
    · exact hw
  have hstk : ((As.reverse ++ .ref a :: rest).map (am_cv G)) = (As.map (am_cv G)).reverse ++ .ref (am_up G a) :: rest.map (am_cv G) := by simp [am_cv]
  have hrest : 2 * (F0 m pc ls (((As.reverse ++ .ref a :: rest).map (am_cv G)))).monitorRoom + ((rest.map (am_cv G)).map fun v => v.category).sum ≤ 8 := by
    show 2 * 0 + _ ≤ 8
    rw [am_cs_ok]
    have := Nat.le_of_ble_eq_true hw
    omega
  have kk : ∀ (v : Option Value) (M1 : am_M) (H1 : Heap) (locs1 : List Loc), am_Ev X d sh0 shF (pc + 3) l (v.toList ++ rest) sh1 M1 Q → am_W G sh1 M1 s H1 → H.size ≤ H1.size → va_S (am_A G) s.heap H1 locs1 → W p la e R s m args below meth c H1 locs1 (am_k sh0 sh + am_k sh sh1) (am_n sh0 sh + am_n sh sh1) Z (F0 m (pc + 3) ls ((v.map (am_cv G)).toList ++ rest.map (am_cv G))) := by
    intro v M1 H1 locs1 hev hW1 hz hS1
    have hgo := hev p la e R s m args below meth c G Z C HZ ls H1 locs1 hL hW1 hS1
    rw [hkk, hnn]
    cases v <;> exact hgo
  obtain ⟨kl, ki, ky, kret⟩ := kr
  have ht := C.2.2.2.2.1
  obtain ⟨y0, y1, y2, y3, y4, y5⟩ := Y
  dsimp only at *
  subst kret
  have hp : PreS s H (va_Pc ((.ref a :: As).map (am_cv G)) (fun U => am_W G sh (I, J, K) U U.heap ∧ am_N U)) (.ref (am_up G a) :: As.map (am_cv G)) := ⟨am_blind, fun U hU hWm => ⟨rfl, by rw [hU]; exact hW.moved hWm.alike, C.2.2.2.2.2.1.warm hWm⟩⟩
  rcases kl with kl | ⟨host, kl⟩
  · exact am_after (va_runI (As := As.map (am_cv G)) (rest := rest.map (am_cv G)) ⟨C.1, C.2.1, C.2.2.1, C.2.2.2.1, C.2.2.2.2.1⟩ hM' (cwI y5 ht hgood rfl rfl rfl (ht _ k2) (ht _ kl) (ht _ ki) ky ⟨k3, k4, k5⟩ hfr) hp rfl (by simpa using hn) hL.1 hstk hrest hd hrm) hS kk
  · exact am_after (va_runIN (host := host) (As := As.map (am_cv G)) (rest := rest.map (am_cv G)) ⟨C.1, C.2.1, C.2.2.1, C.2.2.2.1, C.2.2.2.2.1⟩ hM' ⟨va_cnB y5 ht hgood rfl rfl rfl (C.2.2.2.2.2.1.1 _ kl) (ht _ k2) ⟨k3, k4, k5⟩ hfr, ky, ht _ ki⟩ hp rfl (by simpa using hn) hL.1 hstk hrest hd hrm) hS kk
theorem ev_invV {idx : Nat} {Y : am_me} {As rest : List Value} {a N : Nat} (hk : am_kV X.1 idx Y) (hd : decode X.2.2.1 pc = .ok (.invokevirtual idx, 3)) (hsp : am_sp Y.2.2.2.2.2 st [] = some (As, .ref a :: rest)) (hs : am_nt sh a = some (Y.1, N)) (ha : Nat.blt 0 a = true) (hdd : 1 ≤ d) (hw : Nat.ble (am_cs rest) 8 = true) (hM : am_Mt (d - 1) Y (.ref a :: As) sh sh (I, J, K) (fun v M1 => am_Ev X d sh sh (pc + 3) l (v.toList ++ rest) sh M1 Q)) : am_Ev X d sh sh pc l st sh (I, J, K) Q := ev_invVg hk hd hsp hs ha hdd hw am_le_rf hM
theorem ev_invS {idx : Nat} {Y : am_me} {As rest : List Value} (hk : am_kS X.1 idx Y) (hd : decode X.2.2.1 pc = .ok (.invokestatic idx, 3)) (hsp : am_sp Y.2.2.2.2.2 st [] = some (As, rest)) (hdd : 1 ≤ d) (hw : Nat.ble (am_cs rest) 8 = true) (hM : am_Mt (d - 1) Y As sh sh (I, J, K) (fun v M1 => am_Ev X d sh sh (pc + 3) l (v.toList ++ rest) sh M1 Q)) : am_Ev X d sh sh pc l st sh (I, J, K) Q := ev_invSg hk hd hsp hdd hw am_le_rf hM
theorem ev_obj {idx a : Nat} (hk : Cond.methodLink (am_cn X.1) idx objectInit ∈ am_wd) (hd : decode X.2.2.1 pc = .ok (.invokespecial idx, 3)) (hdd : 1 ≤ d) (hw : Nat.ble (am_cs st) 8 = true) (h : am_Ev X d sh0 shF (pc + 3) l st sh (I, J, K) Q) : am_Ev X d sh0 shF pc l (.ref a :: st) sh (I, J, K) Q := by
  intro p la e R s m args below meth c G Z C HZ ls H locs hL hW hS
  have ht := C.2.2.2.2.1
  refine W.objInit C.1 C.2.1 C.2.2.2.1 (ht _ hk) (ht _ am_oI) (ht _ am_oC) rfl (hL.1.trans C.2.2.1.symm) rfl hd ?_ ?_ (h p la e R s m args below meth c G Z C HZ ls H locs hL hW hS)
  · have := C.2.2.2.2.2.2.2.1
    omega
  · show 2 * 0 + ((st.map (am_cv G)).map fun v => v.category).sum + 12 ≤ R.locals
    rw [am_cs_ok]
    have := Nat.le_of_ble_eq_true hw
    have := C.2.2.2.2.2.2.2.2.1
    omega
theorem ev_min {idx : Nat} {x y : Int32} (hk : Cond.methodLink (am_cn X.1) idx Lib.Math.min.name ∈ am_wd) (hd : decode X.2.2.1 pc = .ok (.invokestatic idx, 3)) (hdd : 1 ≤ d) (hw : Nat.ble (am_cs st) 8 = true) (he : am_k sh0 sh ≤ am_k sh0 shF ∧ am_n sh0 sh ≤ am_n sh0 shF) (h : am_Ev X d sh0 shF (pc + 3) l (.int (if y < x then y else x) :: st) sh (I, J, K) Q) : am_Ev X d sh0 shF pc l (.int y :: .int x :: st) sh (I, J, K) Q := by
  intro p la e R s m args below meth c G Z C HZ ls H locs hL hW hS
  have ht := C.2.2.2.2.1
  refine va_mmin C.1 C.2.1 (C.2.2.1.trans hL.1.symm) C.2.2.2.1 (ht _ hk) (ht _ am_mS) (ht _ am_mI) (ht _ am_mC) ?_ ?_ ?_ ?_ hd (h p la e R s m args below meth c G Z C HZ ls H locs hL hW hS)
  · have := C.2.2.2.2.2.2.2.1
    omega
  · rw [am_cs_ok]
    have := Nat.le_of_ble_eq_true hw
    have := C.2.2.2.2.2.2.2.2.1
    omega
  · exact Nat.le_trans he.1 C.2.2.2.2.2.2.2.2.2.1
  · exact Nat.le_trans he.2 C.2.2.2.2.2.2.2.2.2.2.1
theorem ev_max {idx : Nat} {x y : Int32} (hk : Cond.methodLink (am_cn X.1) idx Lib.Math.max.name ∈ am_wd) (hd : decode X.2.2.1 pc = .ok (.invokestatic idx, 3)) (hdd : 1 ≤ d) (hw : Nat.ble (am_cs st) 8 = true) (he : am_k sh0 sh ≤ am_k sh0 shF ∧ am_n sh0 sh ≤ am_n sh0 shF) (h : am_Ev X d sh0 shF (pc + 3) l (.int (if x < y then y else x) :: st) sh (I, J, K) Q) : am_Ev X d sh0 shF pc l (.int y :: .int x :: st) sh (I, J, K) Q := by
  intro p la e R s m args below meth c G Z C HZ ls H locs hL hW hS
  have ht := C.2.2.2.2.1
  refine va_mmax C.1 C.2.1 (C.2.2.1.trans hL.1.symm) C.2.2.2.1 (ht _ hk) (ht _ am_xS) (ht _ am_mI) (ht _ am_xC) ?_ ?_ ?_ ?_ hd (h p la e R s m args below meth c G Z C HZ ls H locs hL hW hS)
  · have := C.2.2.2.2.2.2.2.1
    omega
  · rw [am_cs_ok]
    have := Nat.le_of_ble_eq_true hw
    have := C.2.2.2.2.2.2.2.2.1
    omega
  · exact Nat.le_trans he.1 C.2.2.2.2.2.2.2.2.2.1
  · exact Nat.le_trans he.2 C.2.2.2.2.2.2.2.2.2.2.1
/-- System.arraycopy of a whole row of ints, from its start -/
theorem ev_copy {idx a b n n1 : Nat} {z w : Int32} (hk : Cond.methodLink (am_cn X.1) idx arraycopyName ∈ am_wd) (hd : decode X.2.2.1 pc = .ok (.invokestatic idx, 3)) (hs : am_nt sh a = some (9, n1)) (hs1 : am_nt sh b = some (9, n)) (hz : z = 0) (hw : w = nI n) (hb : (Nat.blt 0 a && Nat.blt 0 b && Nat.ble n n1 && Nat.blt n 2147483648) = true) (hdd : 1 ≤ d) (hcs : Nat.ble (am_cs st) 8 = true) (h : am_Ev X d sh0 shF (pc + 3) l st sh (ur I b (I a), J, K) Q) : am_Ev X d sh0 shF pc l (.int w :: .int z :: .ref b :: .int z :: .ref a :: st) sh (I, J, K) Q := by
  subst hz
  subst hw
  intro p la e R s m args below meth c G Z C HZ ls H locs hL hW hS
  have ht := C.2.2.2.2.1
  simp only [Bool.and_eq_true, Nat.blt_eq, Nat.ble_eq] at hb
  obtain ⟨⟨⟨b1, b2⟩, b3⟩, b4⟩ := hb
  have hN : (nI n).toNatClampNeg = n := nI_clamp (by omega)
  have h0 : (0 : Int32).toNatClampNeg = 0 := rfl
  obtain ⟨w1, w2, hP, hK, L, w3, hX⟩ := id hW
  refine va_copyi C.1 C.2.1 (C.2.2.1.trans hL.1.symm) C.2.2.2.1 (ht _ hk) (ht _ am_cN) (ht _ am_cS) (ht _ am_cI) hK hP (am_ws_D G sh (I, J, K)) (am_S_self hS) (a - 1) (b - 1) 0 0 (am_ws_at hs (by omega)) (am_ws_at hs1 (by omega)) rfl rfl rfl (by decide) (by decide) (nI_pos (by omega)) (by rw [h0, hN]; omega) (by rw [h0, hN]; omega) (fun i _ => rfl) ?_ ?_ hd fun H1 locs1 hP1 hD1 hS1 => ?_
  · have := C.2.2.2.2.2.2.2.1
    omega
  · rw [am_cs_ok]
    have := Nat.le_of_ble_eq_true hcs
    have := C.2.2.2.2.2.2.2.2.1
    have e : nativeFrameWords "java/lang/System" "arraycopy" 5 + 11 ≤ 60 := by decide +kernel
    omega
  · rw [h0, hN] at hP1
    refine am_fin2 C.2.2.2.2.2.2.2.2.2.2.2.2 hW hS hS1 fun hz hS2 => h p la e R s m args below meth c G Z C HZ ls H1 locs1 hL (am_Wset am_one_r hs1 (by omega) hW ?_ hz hS1) hS2
    intro k q hq
    by_cases hkb : k = b - 1
    · subst hkb
      have hl := (List.getElem?_eq_some_iff.mp hq).1
      rw [List.length_set] at hl
      rw [List.getElem?_set_self hl] at hq
      cases hq
      have h9 := hP1 (b - 1) _ (List.getElem?_set_self hl)
      show H1[am_up G b]? = some (vp_cell _ (n, .inl (ur I b (I a) b)))
      refine Eq.trans h9 ?_
      simp only [vp_cell_i]
      refine congrArg some ?_
      unfold arrV
      congr 2
      funext j
      have hj := j.2
      simp [va_cpy, ur, hj]
    · rw [List.getElem?_set_ne (Ne.symm hkb)] at hq
      exact hP1 k q (by rw [List.getElem?_set_ne (Ne.symm hkb)]; exact hq)
end AMC
