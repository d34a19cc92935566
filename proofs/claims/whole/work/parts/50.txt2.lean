/-! an order; the text's fault -/
def pCnt (kd : Int32) : Nat := if kd = 100 then 1 else (if kd = 102 then 4 else (if kd = 108 then 3 else (if kd = 113 then 2 else (if kd = 115 then 2 else 0))))
theorem kRd_0 {P : Nat → Int32} {n o a : Nat} {O V : Nat → Int32} {kd : Int32} (ha : a < n) (hk : P a = kd) (h1 : kd ≠ 68) (h2 : kd ≠ 78) {i : Nat} (h0 : (kByt.getD i []).getD 0 0 = kd) : kRd o 0 (upd O (5 * o) kd) (cParts P n i a V 1) (true, a + 1, upd O (5 * o) kd) := by
  have e : cParts P n i a V 1 = cStp P n kd (true, a, V, 0) := by
    rw [cParts_S, h0]
    rfl
  have c : pAt P n a kd kd := ⟨ha, pIn_same.mpr hk⟩
  rw [e]
  unfold cStp cPart cSn pSg
  rw [if_pos rfl, if_neg h1, if_neg h2]
  dsimp only
  rw [if_pos c]
  exact ⟨decide_eq_true c, rfl, fun _ _ => rfl, fun _ => ⟨rfl, fun i hi => absurd hi (Nat.not_lt_zero _)⟩⟩
theorem kRd_d {P : Nat → Int32} {n o a : Nat} {O V : Nat → Int32} (ha : a < n) (hk : P a = 100) : kRd o 1 (upd O (5 * o) 100) (cParts P n 4 a V 2) (pN P n (5 * o + 1 + 0) ((true, a + 1, upd O (5 * o) 100))) := by
  have r0 := kRd_0 (o := o) (O := O) (V := V) ha hk (by decide) (by decide) (i := 4) rfl
  have r1 := kRd_N (P := P) (n := n) r0 (by decide)
  exact r1
theorem kRd_f {P : Nat → Int32} {n o a : Nat} {O V : Nat → Int32} (ha : a < n) (hk : P a = 102) : kRd o 4 (upd O (5 * o) 102) (cParts P n 0 a V 8) (pN P n (5 * o + 1 + 3) (pS P n 64 (pN P n (5 * o + 1 + 2) (pS P n 37 (pN P n (5 * o + 1 + 1) (pS P n 58 (pD P n (5 * o + 1 + 0) ((true, a + 1, upd O (5 * o) 102))))))))) := by
  have r0 := kRd_0 (o := o) (O := O) (V := V) ha hk (by decide) (by decide) (i := 0) rfl
  have r1 := kRd_D (P := P) (n := n) r0 (by decide)
  have r2 := kRd_S (P := P) (n := n) r1 (c := 58) (by decide) (by decide)
  have r3 := kRd_N (P := P) (n := n) r2 (by decide)
  have r4 := kRd_S (P := P) (n := n) r3 (c := 37) (by decide) (by decide)
  have r5 := kRd_N (P := P) (n := n) r4 (by decide)
  have r6 := kRd_S (P := P) (n := n) r5 (c := 64) (by decide) (by decide)
  have r7 := kRd_N (P := P) (n := n) r6 (by decide)
  exact r7
theorem kRd_l {P : Nat → Int32} {n o a : Nat} {O V : Nat → Int32} (ha : a < n) (hk : P a = 108) : kRd o 3 (upd O (5 * o) 108) (cParts P n 2 a V 6) (pN P n (5 * o + 1 + 2) (pS P n 61 (pD P n (5 * o + 1 + 1) (pS P n 62 (pD P n (5 * o + 1 + 0) ((true, a + 1, upd O (5 * o) 108))))))) := by
  have r0 := kRd_0 (o := o) (O := O) (V := V) ha hk (by decide) (by decide) (i := 2) rfl
  have r1 := kRd_D (P := P) (n := n) r0 (by decide)
  have r2 := kRd_S (P := P) (n := n) r1 (c := 62) (by decide) (by decide)
  have r3 := kRd_D (P := P) (n := n) r2 (by decide)
  have r4 := kRd_S (P := P) (n := n) r3 (c := 61) (by decide) (by decide)
  have r5 := kRd_N (P := P) (n := n) r4 (by decide)
  exact r5
theorem kRd_q {P : Nat → Int32} {n o a : Nat} {O V : Nat → Int32} (ha : a < n) (hk : P a = 113) : kRd o 2 (upd O (5 * o) 113) (cParts P n 1 a V 4) (pN P n (5 * o + 1 + 1) (pS P n 61 (pD P n (5 * o + 1 + 0) ((true, a + 1, upd O (5 * o) 113))))) := by
  have r0 := kRd_0 (o := o) (O := O) (V := V) ha hk (by decide) (by decide) (i := 1) rfl
  have r1 := kRd_D (P := P) (n := n) r0 (by decide)
  have r2 := kRd_S (P := P) (n := n) r1 (c := 61) (by decide) (by decide)
  have r3 := kRd_N (P := P) (n := n) r2 (by decide)
  exact r3
theorem kRd_s {P : Nat → Int32} {n o a : Nat} {O V : Nat → Int32} (ha : a < n) (hk : P a = 115) : kRd o 2 (upd O (5 * o) 115) (cParts P n 3 a V 4) (pN P n (5 * o + 1 + 1) (pS P n 45 (pN P n (5 * o + 1 + 0) ((true, a + 1, upd O (5 * o) 115))))) := by
  have r0 := kRd_0 (o := o) (O := O) (V := V) ha hk (by decide) (by decide) (i := 3) rfl
  have r1 := kRd_N (P := P) (n := n) r0 (by decide)
  have r2 := kRd_S (P := P) (n := n) r1 (c := 45) (by decide) (by decide)
  have r3 := kRd_N (P := P) (n := n) r2 (by decide)
  exact r3
/-- an order, read by both -/
theorem cOrd_m {P : Nat → Int32} {n o : Nat} {O : Nat → Int32} {q : kQ} (hq : q.1 ≤ n) : (cOrd P n q).1 = (mOrder P n o q.1 O).1 ∧ (cOrd P n q).2.1 = (mOrder P n o q.1 O).2.1 ∧ (∀ j, j < 5 * o → (mOrder P n o q.1 O).2.2 j = O j) ∧
    ((cOrd P n q).1 = true → q.1 < n ∧ (mOrder P n o q.1 O).2.2 (5 * o) = (cOrd P n q).2.2.1 ∧ (cOrd P n q).2.2.1 = P q.1 ∧ ∀ i, i < pCnt (P q.1) → (cOrd P n q).2.2.2.1 i = (mOrder P n o q.1 O).2.2 (5 * o + 1 + i)) := by
  obtain ⟨a, kd, V, vc⟩ := q
  dsimp only at hq
  unfold cOrd mOrder mSort
  dsimp only
  by_cases c : n ≤ a
  · rw [if_pos c, if_pos c, if_neg (by decide), if_neg (by decide), if_neg (by decide), if_neg (by decide), if_neg (by decide)]
    exact ⟨rfl, rfl, fun j hj => by dsimp only; rw [upd_o (by omega)], fun z => by cases z⟩
  · rw [if_neg c, if_neg c]
    have ha : a < n := by omega
    by_cases k100 : P a = 100
    · have ef : cFx (P a) = 4 := by unfold cFx; rw [if_pos k100]
      have ec : pCnt (P a) = 1 := by unfold pCnt; rw [if_pos k100]
      obtain ⟨e1, e2, e3, e4⟩ := kRd_d (o := o) (O := O) (V := V) ha k100
      rw [if_pos k100, ef, ec]
      rw [if_neg (show ¬ kLen.getD 4 0 = 0 by decide), k100]
      exact ⟨e1, e2, fun j hj => (e3 j (by omega)).trans (upd_o (by omega)), fun z => ⟨ha, (e3 _ (Nat.le_refl _)).trans upd_s, rfl, fun i hi => (e4 z).2 i hi⟩⟩
    · skip
      by_cases k102 : P a = 102
      · have ef : cFx (P a) = 0 := by unfold cFx; rw [if_neg k100, if_pos k102]
        have ec : pCnt (P a) = 4 := by unfold pCnt; rw [if_neg k100, if_pos k102]
        obtain ⟨e1, e2, e3, e4⟩ := kRd_f (o := o) (O := O) (V := V) ha k102
        rw [if_neg k100, if_pos k102, ef, ec]
        rw [if_neg (show ¬ kLen.getD 0 0 = 0 by decide), k102]
        exact ⟨e1, e2, fun j hj => (e3 j (by omega)).trans (upd_o (by omega)), fun z => ⟨ha, (e3 _ (Nat.le_refl _)).trans upd_s, rfl, fun i hi => (e4 z).2 i hi⟩⟩
      · skip
        by_cases k108 : P a = 108
        · have ef : cFx (P a) = 2 := by unfold cFx; rw [if_neg k100, if_neg k102, if_pos k108]
          have ec : pCnt (P a) = 3 := by unfold pCnt; rw [if_neg k100, if_neg k102, if_pos k108]
          obtain ⟨e1, e2, e3, e4⟩ := kRd_l (o := o) (O := O) (V := V) ha k108
          rw [if_neg k100, if_neg k102, if_pos k108, ef, ec]
          rw [if_neg (show ¬ kLen.getD 2 0 = 0 by decide), k108]
          exact ⟨e1, e2, fun j hj => (e3 j (by omega)).trans (upd_o (by omega)), fun z => ⟨ha, (e3 _ (Nat.le_refl _)).trans upd_s, rfl, fun i hi => (e4 z).2 i hi⟩⟩
        · skip
          by_cases k113 : P a = 113
          · have ef : cFx (P a) = 1 := by unfold cFx; rw [if_neg k100, if_neg k102, if_neg k108, if_pos k113]
            have ec : pCnt (P a) = 2 := by unfold pCnt; rw [if_neg k100, if_neg k102, if_neg k108, if_pos k113]
            obtain ⟨e1, e2, e3, e4⟩ := kRd_q (o := o) (O := O) (V := V) ha k113
            rw [if_neg k100, if_neg k102, if_neg k108, if_pos k113, ef, ec]
            rw [if_neg (show ¬ kLen.getD 1 0 = 0 by decide), k113]
            exact ⟨e1, e2, fun j hj => (e3 j (by omega)).trans (upd_o (by omega)), fun z => ⟨ha, (e3 _ (Nat.le_refl _)).trans upd_s, rfl, fun i hi => (e4 z).2 i hi⟩⟩
          · skip
            by_cases k115 : P a = 115
            · have ef : cFx (P a) = 3 := by unfold cFx; rw [if_neg k100, if_neg k102, if_neg k108, if_neg k113, if_pos k115]
              have ec : pCnt (P a) = 2 := by unfold pCnt; rw [if_neg k100, if_neg k102, if_neg k108, if_neg k113, if_pos k115]
              obtain ⟨e1, e2, e3, e4⟩ := kRd_s (o := o) (O := O) (V := V) ha k115
              rw [if_neg k100, if_neg k102, if_neg k108, if_neg k113, if_pos k115, ef, ec]
              rw [if_neg (show ¬ kLen.getD 3 0 = 0 by decide), k115]
              exact ⟨e1, e2, fun j hj => (e3 j (by omega)).trans (upd_o (by omega)), fun z => ⟨ha, (e3 _ (Nat.le_refl _)).trans upd_s, rfl, fun i hi => (e4 z).2 i hi⟩⟩
            · skip
              have ef : cFx (P a) = 5 := by unfold cFx; rw [if_neg k100, if_neg k102, if_neg k108, if_neg k113, if_neg k115]
              rw [if_neg k100, if_neg k102, if_neg k108, if_neg k113, if_neg k115, ef, if_pos (show kLen.getD 5 0 = 0 by decide)]
              exact ⟨rfl, rfl, fun j hj => by dsimp only; rw [upd_o (by omega)], fun z => by cases z⟩
/-- the fault, found by both -/
theorem cFa_m {P : Nat → Int32} {n : Nat} : ∀ (f g o : Nat) (O : Nat → Int32) (q : kQ), q.1 ≤ n → n < q.1 + 3 * f → n < q.1 + 3 * g → (cFa P n f q).1 = if (mTxt P n g o q.1 O).1 = true then -6 else nI (mTxt P n g o q.1 O).2.1
  | 0, g, o, O, q, h1, h2, h3 => by omega
  | f + 1, 0, o, O, q, h1, h2, h3 => by omega
  | f + 1, g + 1, o, O, q, h1, h2, h3 => by
    obtain ⟨e1, e2, -⟩ := cOrd_m (P := P) (o := o) (O := O) h1
    obtain ⟨w1, w2, w3⟩ := mOrder_w (P := P) (o := o) (O := O) h1
    by_cases c : (mOrder P n o q.1 O).1 = true
    · have c' : (cOrd P n q).1 = true := e1.trans c
      have w4 := w3 c
      by_cases c2 : pAt P n (mOrder P n o q.1 O).2.1 59 59
      · have c3 := c2.1
        have c2' : pAt P n (cOrd P n q).2.1 59 59 := by rw [e2]; exact c2
        rw [mTxt_more c c2, cFa_go c' (by omega) c2']
        have hn1 : (cOrd P n q).2.1 + 1 ≤ n := by omega
        have hn2 : n < (cOrd P n q).2.1 + 1 + 3 * f := by omega
        have hn3 : n < (cOrd P n q).2.1 + 1 + 3 * g := by omega
        have ih := cFa_m (P := P) f g (o + 1) (mOrder P n o q.1 O).2.2 (((cOrd P n q).2.1 + 1, (cOrd P n q).2.2) : kQ) hn1 hn2 hn3
        dsimp only at ih
        rw [ih, e2]
      · have c2' : ¬ pAt P n (cOrd P n q).2.1 59 59 := by rw [e2]; exact c2
        rw [mTxt_end c c2]
        by_cases c3 : (mOrder P n o q.1 O).2.1 = n
        · rw [cFa_ok c' (e2.trans c3)]
          dsimp only
          rw [if_pos (decide_eq_true c3)]
        · rw [cFa_st c' (by omega) c2']
          dsimp only
          rw [if_neg (fun z => c3 (of_decide_eq_true z)), e2]
    · have c' : ¬ (cOrd P n q).1 = true := fun z => c (e1.symm.trans z)
      rw [mTxt_no c, cFa_no c']
      dsimp only
      rw [if_neg (by decide), e2]
theorem cFault_m {R : kN} {kd : Int32} {V : Nat → Int32} {vc : Nat} (h80 : pn R ≤ 80) : (cFa (R 5) (pn R) 80 (0, kd, V, vc)).1 = mFault R := by
  have := cFa_m (P := R 5) (n := pn R) 80 (pn R + 1) 0 (R 6) (0, kd, V, vc) (Nat.zero_le _) (by dsimp only; omega) (by dsimp only; omega)
  unfold mFault mText
  exact this
