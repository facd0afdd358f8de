/-! ===== the law from its first row: what the constructors leave ===== -/
def eq1 (I F : Nat → Nat → Int32) : Prop := ∀ b j, b ≠ 0 → I b j = F b j
theorem eq1_ci {I F : Nat → Nat → Int32} {a : Nat} (h : eq1 I F) : eq1 (ci I a) (ci F a) := fun b j hb => by
  simp only [ci]
  rw [h b j hb]
theorem eq1_fl {I F : Nat → Nat → Int32} {c lo hi : Nat} {v : Int32} (h : eq1 I F) : eq1 (fl I c lo hi v) (fl F c lo hi v) := fun b j hb => by
  simp only [fl]
  rw [h b j hb]
theorem eq1_X4 {I F : Nat → Nat → Int32} {a : Nat} (h : eq1 I F) : eq1 (iX4 I a) (iX4 F a) := eq1_ci (eq1_ci (eq1_ci h))
theorem eq1_X0 {I F : Nat → Nat → Int32} {a : Nat} (h : eq1 I F) : eq1 (iX0 I a) (iX0 F a) := eq1_fl (eq1_fl (eq1_fl (eq1_X4 (eq1_ci (eq1_ci (eq1_ci (eq1_ci (eq1_ci (eq1_ci (eq1_ci h))))))))))
theorem eq1_X5 {I F : Nat → Nat → Int32} {a : Nat} (h : eq1 I F) : eq1 (iX5 I a) (iX5 F a) := eq1_ci h
theorem eq1_X2 {I F : Nat → Nat → Int32} (h : eq1 I F) : eq1 (iX2 I) (iX2 F) := eq1_ci (eq1_ci (eq1_ci (eq1_ci (eq1_X5 (eq1_ci (eq1_ci h))))))
theorem eq1_X3 {I F : Nat → Nat → Int32} (h : eq1 I F) : eq1 (iX3 I) (iX3 F) := eq1_X0 (eq1_ci (eq1_X0 (eq1_ci (eq1_X0 (eq1_ci (eq1_X0 (eq1_ci (eq1_X0 (eq1_ci (eq1_ci h))))))))))
theorem eq1_X7 {I F : Nat → Nat → Int32} (h : eq1 I F) : eq1 (iX7 I) (iX7 F) := eq1_X5 (eq1_ci (eq1_ci (eq1_ci (eq1_X3 (eq1_ci (eq1_X2 (eq1_ci (eq1_X0 (eq1_ci h)))))))))
theorem eq1_X8 {I F : Nat → Nat → Int32} (h : eq1 I F) : eq1 (iX8 I) (iX8 F) := eq1_fl (eq1_ci (eq1_ci (eq1_ci (eq1_ci (eq1_ci (eq1_ci (eq1_ci (eq1_ci (eq1_ci (eq1_ci (eq1_ci (eq1_ci (eq1_ci (eq1_ci h))))))))))))))
def iF (I : Nat → Nat → Int32) : Nat → Nat → Int32 := iX8 (ci (iX7 (ci I 1)) 82)
def kF : Nat → Nat → Option Nat := kX8 (ck (kX7 (ck (fun _ _ => none) 1)) 82)
def iZ : Nat → Nat → Int32 := iF (fun _ _ => 0)
def p0 (k : Nat) : Nat := 23 + 11 * k
def D0 : Nat → Int32 := fun x => if 120 ≤ x ∧ x < 230 then -1 else 0
def s0 : Sta := (D0, 0, fun _ _ => 0, 0, fun _ => 0)
theorem iF_eq {I : Nat → Nat → Int32} (h : ∀ b j, b ≠ 0 → I b j = 0) : eq1 (iF I) iZ := eq1_X8 (eq1_ci (eq1_X7 (eq1_ci h)))
theorem z_1 : ∀ j, j < 40 → iZ 3 j = D0 j ∧ iZ 6 j = D0 (120 + j) ∧ iZ 7 j = D0 (160 + j) ∧ D0 j = 0 ∧ D0 (120 + j) = -1 ∧ D0 (160 + j) = -1 := by decide +kernel
theorem z_2 : ∀ n, n < 30 → iZ 8 n = D0 (200 + n) ∧ D0 (200 + n) = -1 := by decide +kernel
theorem z_3 : iZ 9 3 = D0 248 ∧ D0 248 = 0 ∧ iZ 2 7 = D0 249 ∧ iZ 2 8 = D0 250 ∧ iZ 2 9 = D0 251 ∧ iZ 21 1 = 0 ∧ iZ 78 1 = 0 ∧ iZ 82 4 = 0 ∧ iZ 82 5 = 0 ∧ iZ 82 7 = 0 := by decide +kernel
theorem z_4 : ∀ x, x < 252 → iZ 83 x = D0 x := by decide +kernel
theorem z_5 : zD D0 = 0 := by decide +kernel
theorem p0_OK : pOK p0 := by
  refine ⟨fun k hk => ?_, fun i j hi hj e => ?_⟩
  · unfold p0
    omega
  · unfold p0 at e
    omega
theorem cls_0 {I : Nat → Nat → Int32} (h : eq1 I iZ) : Cls I p0 s0 := by
  obtain ⟨a1, a2, a3, a4, a5, a6, a7, a8, a9, a10⟩ := z_3
  refine ⟨p0_OK, ⟨fun j hj => ?_, fun n hn => ?_, ?_, fun k hk hz => ?_, ?_⟩, ?_, fun k hk => absurd hk (Nat.not_lt_zero _), ?_, fun i hi => absurd hi (Nat.not_lt_zero _)⟩
  · obtain ⟨b1, b2, b3, b4, b5, b6⟩ := z_1 j hj
    refine ⟨(h 3 j (by decide)).trans b1, fun c => absurd b4 c, fun c => ?_, (h 6 j (by decide)).trans b2, (h 7 j (by decide)).trans b3⟩
    have c : D0 j = 1 := c
    rw [b4] at c
    exact absurd c (by decide)
  · exact (h 8 n (by decide)).trans (z_2 n hn).1
  · exact (h 9 3 (by decide)).trans a1
  · have hz : k < zD D0 := hz
    rw [z_5] at hz
    omega
  · exact ⟨(h 2 7 (by decide)).trans a3, (h 2 8 (by decide)).trans a4, (h 2 9 (by decide)).trans a5⟩
  · exact (h 21 1 (by decide)).trans a6
  · exact (h 78 1 (by decide)).trans a7
theorem mod_0 {I : Nat → Nat → Int32} (h : eq1 I iZ) : Mod false I s0 := by
  obtain ⟨a1, a2, a3, a4, a5, a6, a7, a8, a9, a10⟩ := z_3
  exact ⟨fun x hx => (h 83 x (by decide)).trans (z_4 x hx), (h 82 4 (by decide)).trans a8, fun k hk => absurd hk (Nat.not_lt_zero _), (h 82 5 (by decide)).trans a9, (h 82 7 (by decide)).trans a10, fun i hi => absurd hi (Nat.not_lt_zero _)⟩
theorem wst_0 : Wst s0 := by
  refine ⟨⟨fun j hj => ?_, fun n hn => Or.inl (z_2 n hn).2, ?_, ?_, fun k hk => ?_⟩, Nat.zero_le _, fun k hk => absurd hk (Nat.not_lt_zero _), Nat.zero_le _, fun i hi => absurd hi (Nat.not_lt_zero _)⟩
  · obtain ⟨b1, b2, b3, b4, b5, b6⟩ := z_1 j hj
    refine ⟨Or.inl b4, fun c => absurd b4 c, fun c => ?_, Or.inl b5, Or.inl b6, fun _ => b5⟩
    have c : D0 j = 1 := c
    rw [b4] at c
    exact absurd c (by decide)
  · show D0 248 = nI (zD D0)
    rw [z_5, z_3.2.1]
    rfl
  · show zD D0 ≤ 6
    rw [z_5]
    omega
  · have hk : k < zD D0 := hk
    rw [z_5] at hk
    omega
/-- where a memory's references count -/
def refAt (q : Nat × Nat) (k : Nat) : Bool := Nat.blt k q.2 && (Nat.beq q.1 11 || (Nat.blt q.1 9 && Nat.blt 1 (am_ft q.1 k)))
theorem arrV_eq {cA : ClassId} {n : Nat} {f g : Nat → Value} (h : ∀ k, k < n → f k = g k) : arrV cA n f = arrV cA n g := by
  unfold arrV
  congr 1
  congr 1
  funext i
  exact h i.val i.isLt
theorem am_W_ref {G : am_G} {sh : am_S} {I : Nat → Nat → Int32} {J : Nat → Nat → Int64} {K K' : Nat → Nat → Option Nat} {s : State} {H : Heap} (e : ∀ j q, j < sh.length - 1 → am_nt sh (j + 1) = some q → ∀ k, refAt q k = true → K (j + 1) k = K' (j + 1) k) (hW : am_W G sh (I, J, K) s H) : am_W G sh (I, J, K') s H := by
  obtain ⟨w1, w2, hP, hK, L, w3, hX⟩ := hW
  refine ⟨w1, w2, fun k q hq => ?_, hK, L, w3, hX⟩
  have hl := (List.getElem?_eq_some_iff.mp hq).1
  rw [am_ws_len] at hl
  have hk1 : k + 1 < sh.length := by omega
  obtain ⟨q0, hq0⟩ : ∃ q0, am_nt sh (k + 1) = some q0 := ⟨sh[k + 1], by rw [am_nt_get]; exact List.getElem?_eq_getElem hk1⟩
  have ek := e k q0 (by omega) hq0
  have h1 := am_ws_at (G := G) (M := (I, J, K)) hq0 (by omega)
  have h2 := am_ws_at (G := G) (M := (I, J, K')) hq0 (by omega)
  rw [Nat.add_sub_cancel] at h1 h2
  have hp := hP k _ h1
  rw [h2] at hq
  cases hq
  obtain ⟨c, N⟩ := q0
  unfold refAt at ek
  simp only [Bool.and_eq_true, Bool.or_eq_true, Nat.blt_eq, Nat.beq_eq_true_eq] at ek
  by_cases c9 : c < 9
  · have e3 : am_en G (I, J, K) (k + 1) (c, N) = am_en G (I, J, K') (k + 1) (c, N) := by
      rw [am_en_obj c9, am_en_obj c9]
      congr 2
      refine List.map_congr_left fun i hi => ?_
      have hi := List.mem_range.mp hi
      have ek := fun h => ek i ⟨hi, Or.inr ⟨c9, h⟩⟩
      unfold am_sv
      generalize am_ft c i = t at ek ⊢
      match t, ek with
      | 0, _ => rfl
      | 1, _ => rfl
      | n + 2, ek =>
        show va_rf ((K (k + 1) i).map (am_up G)) = va_rf ((K' (k + 1) i).map (am_up G))
        rw [ek (by omega)]
    rw [← e3]
    exact hp
  · by_cases c11 : c = 11
    · subst c11
      have hp : H[am_up G (k + 1)]? = some (arrV G.2.2.2.2.2 N (fun j => va_rf ((K (k + 1) j).map (am_up G)))) := hp
      show H[am_up G (k + 1)]? = some (arrV G.2.2.2.2.2 N (fun j => va_rf ((K' (k + 1) j).map (am_up G))))
      rw [hp]
      congr 1
      exact arrV_eq fun j hj => by rw [ek j ⟨hj, Or.inl rfl⟩]
    · by_cases c9' : c = 9
      · subst c9'
        exact hp
      · by_cases c10 : c = 10
        · subst c10
          exact hp
        · have e3 : am_en G (I, J, K) (k + 1) (c, N) = .inr (c, (List.range N).map (am_sv G (I, J, K) c (k + 1))) := by
            unfold am_en
            split
            · rename_i h; exact absurd h c9'
            · rename_i h; exact absurd h c10
            · rename_i h; exact absurd h c11
            · rfl
          have e4 : am_en G (I, J, K') (k + 1) (c, N) = .inr (c, (List.range N).map (am_sv G (I, J, K') c (k + 1))) := by
            unfold am_en
            split
            · rename_i h; exact absurd h c9'
            · rename_i h; exact absurd h c10
            · rename_i h; exact absurd h c11
            · rfl
          have e5 : ∀ i, am_ft c i = 0 := fun i => by
            unfold am_ft
            rw [am_nt_get, List.getElem?_eq_none (by show 9 ≤ c; omega)]
            rfl
          rw [e4]
          rw [e3] at hp
          have e6 : am_sv G (I, J, K') c (k + 1) = am_sv G (I, J, K) c (k + 1) := by
            funext i
            unfold am_sv
            rw [e5 i]
            rfl
          rw [e6]
          exact hp
section T73
variable {X : am_me} {d : Nat} {sh0 shF sh : am_S} {pc L : Nat} {l : List (Option Value)} {st : List Value} {I : Nat → Nat → Int32} {J : Nat → Nat → Int64} {K K' : Nat → Nat → Option Nat} {Q : Option Value → am_M → Prop}
theorem am_ref (e : ∀ j q, j < sh.length - 1 → am_nt sh (j + 1) = some q → ∀ k, refAt q k = true → K (j + 1) k = K' (j + 1) k) (h : am_Ev X d sh0 shF pc l st sh (I, J, K') Q) : am_Ev X d sh0 shF pc l st sh (I, J, K) Q := by
  intro p la e' R s m args below meth c G Z C HZ ls H locs hL hW hS
  exact h p la e' R s m args below meth c G Z C HZ ls H locs hL (am_W_ref e hW) hS
end T73
theorem kF_eq : ∀ j, j < 96 → ∀ k, k < 21 → (am_nt (SH 0) (j + 1)).all (fun q => !(refAt q k) || (kF (j + 1) k == KR p0 (j + 1) k)) = true := by decide +kernel
theorem sh_21 : ∀ j, j < 96 → (am_nt (SH 0) (j + 1)).all (fun q => Nat.ble q.2 21 || !(Nat.beq q.1 11 || Nat.blt q.1 9)) = true := by decide +kernel
theorem kF_ref (L : Nat) : ∀ j q, j < (SH L).length - 1 → am_nt (SH L) (j + 1) = some q → ∀ k, refAt q k = true → kF (j + 1) k = KR p0 (j + 1) k := by
  intro j q hj hq k hk
  have hj : j < 96 := hj
  have hq : am_nt (SH 0) (j + 1) = some q := hq
  have h1 := sh_21 j hj
  rw [hq] at h1
  have hk' := hk
  unfold refAt at hk'
  simp only [Option.all_some, Bool.and_eq_true, Bool.or_eq_true, Bool.not_eq_true', Nat.blt_eq, Nat.ble_eq, Nat.beq_eq_true_eq] at h1 hk'
  have k21 : k < 21 := by
    rcases h1 with h1 | h1
    · omega
    · rcases hk'.2 with h2 | h2
      · rw [h2] at h1
        simp at h1
      · rw [show Nat.blt q.1 9 = true by rw [Nat.blt_eq]; exact h2.1] at h1
        simp at h1
  have h2 := kF_eq j hj k k21
  rw [hq] at h2
  simp only [Option.all_some, hk, Bool.not_true, Bool.false_or, beq_iff_eq] at h2
  exact h2
set_option maxRecDepth 20000 in
theorem PS_97 (L : Nat) : PS L 97 = SH L := rfl
set_option maxRecDepth 20000 in
theorem law_all {d L : Nat} (hd : 17 ≤ d) (hL : L ≤ 2560) (xs : Nat → Int32) : am_Ev me_L_law d [(9, L)] (SH L) 0 [some (.ref 0), none, none, none] [] [(9, L)] (fun a j => if a = 0 then xs j else 0, fun _ _ => 0, fun _ _ => none) (fun v _ => v = some (.int 1)) := by
  refine ev_new (pc := 0) kN_9_7 dL_law_0 rfl rfl (ev_dup (pc := 3) dL_law_3 rfl (ev_invIg (sh1 := PS L 82) (pc := 4) kI_9_9 dL_law_4 rfl (by omega) rfl ⟨Nat.le_of_ble_eq_true rfl, Nat.le_of_ble_eq_true rfl, Nat.le_of_ble_eq_true rfl, Nat.le_of_ble_eq_true rfl, Nat.le_of_ble_eq_true rfl⟩ ?_))
  refine i_X7 (by omega) fun J1 => ?_
  refine ev_astore_n (pc := 7) dL_law_7 rfl (ev_new (pc := 8) kN_9_10 dL_law_8 rfl rfl (ev_dup (pc := 11) dL_law_11 rfl (ev_invIg (sh1 := PS L 97) (pc := 12) kI_9_12 dL_law_12 rfl (by omega) rfl ⟨Nat.le_of_ble_eq_true rfl, Nat.le_of_ble_eq_true rfl, Nat.le_of_ble_eq_true rfl, Nat.le_of_ble_eq_true rfl, Nat.le_of_ble_eq_true rfl⟩ ?_)))
  refine i_X8 (by omega) fun J2 => ?_
  refine ev_astore_n (pc := 15) dL_law_15 rfl (ev_iconst (pc := 16) (v := (0)) dL_law_16 iconst_c0 (ev_istore_n (pc := 17) dL_law_17 rfl (?_)))
  have key := fun I h => lp_law (d := d) (L := L) hd hL L 0 I J2 p0 s0 (by omega) (by omega) (cls_0 h) (mod_0 h) wst_0
  have k2 := am_ref (kF_ref L) (key (iF (fun a j => if a = 0 then xs j else 0)) (iF_eq fun b j hb => if_neg hb))
  rw [← PS_97 L] at k2
  exact k2
