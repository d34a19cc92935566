/-! what would be -/
theorem kcp_at {f g : Nat → Int32} {n k : Nat} : kcp f g n k = if k < n then f k else g k := by
  show (if 0 ≤ k ∧ k < 0 + n then f (0 + (k - 0)) else g k) = _
  by_cases h : k < n
  · rw [if_pos ⟨Nat.zero_le _, by omega⟩, if_pos h, show 0 + (k - 0) = k by omega]
  · rw [if_neg (by omega), if_neg h]
theorem cCopy_r (N M : kN) : (cCopy N M 0 = kcp (N 0) (M 0) 7) ∧ (cCopy N M 1 = kcp (N 1) (M 1) 6) ∧ (cCopy N M 2 = kcp (N 2) (M 2) 6) ∧ (cCopy N M 3 = kcp (N 3) (M 3) 6) ∧ (cCopy N M 4 = kcp (N 4) (M 4) 6) ∧ (cCopy N M 5 = kcp (N 5) (M 5) 6) := by
  refine ⟨?_, ?_, ?_, ?_, ?_, ?_⟩ <;> simp [cCopy, cCopyA, cCopyY, cCopyS, cCopyF, cCopyG, sM, sR]
theorem cCopy_f (N M : kN) : (cCopy N M 6 = kcp (N 6) (M 6) (nF N)) ∧ (cCopy N M 7 = kcp (N 7) (M 7) (nF N)) ∧ (cCopy N M 8 = kcp (N 8) (M 8) (nF N)) ∧ (cCopy N M 9 = kcp (N 9) (M 9) (nF N)) ∧ (cCopy N M 10 = kcp (N 10) (M 10) (nF N)) ∧ (cCopy N M 11 = kcp (N 11) (M 11) (nF N)) ∧ (cCopy N M 12 = kcp (N 12) (M 12) (nF N)) ∧ (cCopy N M 13 = kcp (N 13) (M 13) (nF N)) := by
  refine ⟨?_, ?_, ?_, ?_, ?_, ?_, ?_, ?_⟩ <;> simp [cCopy, cCopyA, cCopyY, cCopyS, cCopyF, cCopyG, sM, sR]
theorem cCopy_y (N M : kN) : (cCopy N M 14 = kcp (N 14) (M 14) (nS N)) ∧ (cCopy N M 15 = kcp (N 15) (M 15) (nS N)) ∧ (cCopy N M 16 = kcp (N 16) (M 16) (nY N)) ∧ (cCopy N M 17 = kcp (N 17) (M 17) (nY N)) ∧ (cCopy N M 18 = kcp (N 18) (M 18) (nY N)) := by
  refine ⟨?_, ?_, ?_, ?_, ?_⟩ <;> simp [cCopy, cCopyA, cCopyY, cCopyS, cCopyF, cCopyG, sM, sR]
theorem cCopy_n (N M : kN) : cCopy N M 19 0 = N 19 0 ∧ cCopy N M 19 1 = N 19 1 ∧ cCopy N M 19 2 = N 19 2 ∧ cCopy N M 19 3 = N 19 3 ∧ cCopy N M 19 4 = nI (nF N) ∧ cCopy N M 19 5 = nI (nS N) ∧ cCopy N M 19 6 = nI (nY N) ∧ cCopy N M 19 7 = N 19 7 := by
  refine ⟨?_, ?_, ?_, ?_, ?_, ?_, ?_, ?_⟩ <;> simp [cCopy, cCopyA, cCopyY, cCopyS, cCopyF, cCopyG, sM, sR, upd]
theorem kSim_copy {N M : kN} {s : kS} (h : kSim N s) (hX : mX s) : kSim (cCopy N M) s := by
  obtain ⟨r0, r1, r2, r3, r4, r5⟩ := cCopy_r N M
  obtain ⟨f0, f1, f2, f3, f4, f5, f6, f7⟩ := cCopy_f N M
  obtain ⟨y0, y1, y2, y3, y4⟩ := cCopy_y N M
  obtain ⟨n0, n1, n2, n3, n4, n5, n6, n7⟩ := cCopy_n N M
  obtain ⟨eF, eS, eY, -⟩ := kSim_n h
  rw [eF] at f0 f1 f2 f3 f4 f5 f6 f7 n4
  rw [eS] at y0 y1 n5
  rw [eY] at y2 y3 y4 n6
  obtain ⟨t1, t2, t3, t4⟩ := h.2
  have z : ∀ q k j, kRl (mF s) (mS s) (mY s) q k j → cCopy N M q k = N q k := by
    intro q k j hj
    rcases hj with g | g | g | g | g | g | ⟨g0, g | g | g | g | g | g | g⟩
    · obtain ⟨rfl, b, -⟩ := g; rw [r0, kcp_at, if_pos b]
    · obtain ⟨rfl, b, -⟩ := g; rw [r1, kcp_at, if_pos b]
    · obtain ⟨a, a2, b, -⟩ := g
      rcases (show q = 2 ∨ q = 3 ∨ q = 4 ∨ q = 5 by omega) with rfl | rfl | rfl | rfl
      · rw [r2, kcp_at, if_pos b]
      · rw [r3, kcp_at, if_pos b]
      · rw [r4, kcp_at, if_pos b]
      · rw [r5, kcp_at, if_pos b]
    · obtain ⟨a, a2, b, -⟩ := g
      rcases (show q = 6 ∨ q = 7 ∨ q = 8 ∨ q = 9 ∨ q = 10 ∨ q = 11 ∨ q = 12 ∨ q = 13 by omega) with rfl | rfl | rfl | rfl | rfl | rfl | rfl | rfl
      · rw [f0, kcp_at, if_pos b]
      · rw [f1, kcp_at, if_pos b]
      · rw [f2, kcp_at, if_pos b]
      · rw [f3, kcp_at, if_pos b]
      · rw [f4, kcp_at, if_pos b]
      · rw [f5, kcp_at, if_pos b]
      · rw [f6, kcp_at, if_pos b]
      · rw [f7, kcp_at, if_pos b]
    · obtain ⟨a, a2, b, -⟩ := g
      rcases (show q = 14 ∨ q = 15 by omega) with rfl | rfl
      · rw [y0, kcp_at, if_pos b]
      · rw [y1, kcp_at, if_pos b]
    · obtain ⟨a, a2, b, -⟩ := g
      rcases (show q = 16 ∨ q = 17 ∨ q = 18 by omega) with rfl | rfl | rfl
      · rw [y2, kcp_at, if_pos b]
      · rw [y3, kcp_at, if_pos b]
      · rw [y4, kcp_at, if_pos b]
    · obtain ⟨rfl, rfl⟩ := g; subst g0; exact n0
    · obtain ⟨rfl, rfl⟩ := g; subst g0; exact n1
    · obtain ⟨rfl, rfl⟩ := g; subst g0; exact n2
    · obtain ⟨rfl, rfl⟩ := g; subst g0; exact n3
    · obtain ⟨rfl, rfl⟩ := g; subst g0; rw [n4, h.1.cF, hX.f]
    · obtain ⟨rfl, rfl⟩ := g; subst g0; rw [n5, h.1.cS, hX.s]
    · obtain ⟨rfl, rfl⟩ := g; subst g0; rw [n6, h.1.cY, hX.y]
  refine ⟨fun q k j hj => (z q k j hj).trans (h.1 q k j hj), n7.trans t1, ?_, ?_, ?_⟩
  · rw [← t2]; exact sTo_cong 6 (fun k hk => z 3 k _ (kRl_gw 1 hk (by omega)))
  · rw [← t3]; exact sTo_cong 6 (fun k hk => z 4 k _ (kRl_gw 2 hk (by omega)))
  · rw [← t4]; exact sTo_cong 6 (fun k hk => z 5 k _ (kRl_gw 3 hk (by omega)))
theorem kOK_copy {N M : kN} {s : kS} (h : kOK N s) : kOK (cCopy N M) s := ⟨kSim_copy h.1 h.2.1, h.2⟩
/-- days that are tried -/
theorem kTry {M T : kN} {s : kS} (h : kOK M s) (hT : kSim T s) (idle : Int32) {d : Nat} (hd : d ≤ 300) : kSim (cDays T idle d) (mDays s idle d) := by
  obtain ⟨hS, hX, hQ, hG, hH, hN⟩ := h
  exact (mDays_sim hT hX hQ hG hN idle d (by omega)).1
/-- trucks that are tried: nothing lost on any day, or nothing in the end -/
abbrev cNl (T : kN) (x : Int32) (d : Nat) : Prop := ∀ k, k < d → sTo (cDays T 0 (k + 1) 4) 6 = x
theorem kTrucks {M T : kN} {s : kS} (h : kOK M s) (hT : kSim T s) {v : Nat} (hv : v ≤ 20) {d : Nat} (hd : d ≤ 300) : cNl (sM T 0 0 (nI v)) (sTo (M 4) 6) d ↔ mDays (upd s 3 (nI v)) 0 d 28 = s 28 := by
  obtain ⟨hS, hX, hQ, hG, hH, hN⟩ := h
  have hX2 := mX_trucks hX hv
  have hQ2 : mQ (upd s 3 (nI v)) := mQ_upd hQ (by omega) (by omega) (by omega)
  have hG2 : mG (upd s 3 (nI v)) := mG_set hG (j := 0) (by omega) (kI_ge _ (by omega)) (fun z => by omega)
  have hN2 : mNw (upd s 3 (nI v)) 1000 := by unfold mNw; rw [upd_o (by omega)]; exact hN
  have hS2 : kSim (sM T 0 0 (nI v)) (upd s 3 (nI v)) := by
    have k1 := hT.1.put hX.f30 hX.s5 0 0 (3 + 0) (v := nI v) (kRl_se (by omega)) rfl
    have e1 : mF (upd s 3 (nI v)) = mF s := by unfold mF; rw [upd_o (by omega)]
    have e2 : mS (upd s 3 (nI v)) = mS s := by unfold mS; rw [upd_o (by omega)]
    have e3 : mY (upd s 3 (nI v)) = mY s := by unfold mY; rw [upd_o (by omega)]
    unfold kSim
    rw [e1, e2, e3]
    exact ⟨k1, mLost_kp hT.2 rfl rfl rfl rfl (fun i hi => upd_o (by omega))⟩
  have el : ∀ k, k ≤ 300 → sTo (cDays (sM T 0 0 (nI v)) 0 k 4) 6 = mDays (upd s 3 (nI v)) 0 k 28 := fun k hk => (mDays_sim hS2 hX2 hQ2 hG2 hN2 0 k (by omega)).1.2.2.2.1
  have mono : ∀ k, k < 300 → (mDays (upd s 3 (nI v)) 0 k 28).toInt ≤ (mDays (upd s 3 (nI v)) 0 (k + 1) 28).toInt := fun k hk => by
    obtain ⟨h1, h2, h3, h4⟩ := mDays_sim hS2 hX2 hQ2 hG2 hN2 0 k (by omega)
    obtain ⟨h5, h6⟩ := mDays_I hX2 hQ2 0 k
    exact (mDay_sim h1 h5 h6 h2 h3 (by omega) (nI k < 0)).2.2.2
  have mono2 : ∀ a k, k + a ≤ 300 → (mDays (upd s 3 (nI v)) 0 k 28).toInt ≤ (mDays (upd s 3 (nI v)) 0 (k + a) 28).toInt := by
    intro a
    induction a with
    | zero => intro k _; exact Int.le_refl _
    | succ a ih => intro k hk; exact Int.le_trans (ih k (by omega)) (mono (k + a) (by omega))
  have e0 : mDays (upd s 3 (nI v)) 0 0 28 = s 28 := upd_o (by omega)
  rw [hS.2.2.2.1]
  constructor
  · intro z
    cases d with
    | zero => exact e0
    | succ d => rw [← el _ (by omega)]; exact z d (by omega)
  · intro z k hk
    rw [el _ (by omega)]
    have a1 := mono2 (k + 1) 0 (by omega)
    have a2 := mono2 (d - (k + 1)) (k + 1) (by omega)
    rw [Nat.zero_add, e0] at a1
    rw [show k + 1 + (d - (k + 1)) = d by omega, z] at a2
    exact Int32.toInt_inj.mp (by omega)
def cThen (M T : kN) (w : Int32) : Int32 := if w = 0 then sTo (T 4) 6 - sTo (M 4) 6 else (if w = 1 then T 19 1 - M 19 1 else sTo (T 5) 6 - sTo (M 5) 6)
theorem cThen_m {M T : kN} {s : kS} (h : kOK M s) (hT : kSim T s) {d : Nat} (hd : d ≤ 300) (w : Int32) : cThen M (cDays T 0 d) w = if w = 0 then mDays s 0 d 28 - s 28 else (if w = 1 then mDays s 0 d 27 - s 27 else mDays s 0 d 29 - s 29) := by
  have h1 := kTry h hT 0 hd
  unfold cThen
  rw [h1.2.2.2.1, h1.2.2.2.2, h1.1.sug, h.1.2.2.2.1, h.1.2.2.2.2, h.1.1.sug]
