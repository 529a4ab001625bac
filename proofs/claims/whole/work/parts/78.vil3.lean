/-! VILLAGES: the class tells what it read so -/
def hn (fv : Nat → Int32) : Nat → Int32
  | 0 => -1
  | k + 1 => imax (hn fv k) (imax (fv (3 * k)) (fv (3 * k + 1)))
def ownI (fv : Nat → Int32) (n : Nat) : Bool := anyB (fun k => decide (fv (3 * k) = fv (3 * k + 1))) n
def cV (S : XS) (V : VD) : Prop := S.1 2 6 = bI V.1 ∧ S.1 2 7 = nI V.2.2.1.1 ∧ S.1 2 8 = hn V.2.2.1.2 V.2.2.1.1 ∧ S.1 2 9 = bI (ownI V.2.2.1.2 V.2.2.1.1) ∧ S.1 4 4 = nI V.2.1.1 ∧ S.1 4 5 = V.2.2.2.2 ∧ S.1 4 6 = lyK V.2.1.2 V.2.1.1 ∧ S.1 4 7 = V.2.2.2.1 ∧ S.1 4 8 = 0 ∧ (∀ k, k < 36 → S.1 5 k = lyD V.2.2.1.2 V.2.2.1.1 k) ∧ (∀ h, h < 6 → S.1 6 h = if h < V.2.1.1 then V.2.1.2 (3 * h) else 0) ∧ (∀ h, h < V.2.1.1 → S.1 7 h = V.2.1.2 (3 * h + 1)) ∧ ∀ h, h < 6 → S.1 8 h = 0
theorem B4 : isB 4 := isBd_of 4 (by decide +kernel)
theorem lyK_congr {f g : Nat → Int32} : ∀ {n : Nat}, (∀ i, i < 3 * n → f i = g i) → lyK f n = lyK g n
  | 0, _ => rfl
  | n + 1, h => by
    show lyK f n ||| shl (f (3 * n + 2)) (nI n) = lyK g n ||| shl (g (3 * n + 2)) (nI n)
    rw [lyK_congr (n := n) (fun i hi => h i (by omega)), h _ (by omega)]
theorem lyD_congr {f g : Nat → Int32} : ∀ {n : Nat}, (∀ i, i < 3 * n → f i = g i) → lyD f n = lyD g n
  | 0, _ => rfl
  | n + 1, h => by
    unfold lyD
    rw [lyD_congr (n := n) (fun i hi => h i (by omega)), h (3 * n) (by omega), h (3 * n + 1) (by omega), h (3 * n + 2) (by omega)]
theorem hn_congr {f g : Nat → Int32} : ∀ {n : Nat}, (∀ i, i < 3 * n → f i = g i) → hn f n = hn g n
  | 0, _ => rfl
  | n + 1, h => by
    show imax (hn f n) _ = imax (hn g n) _
    rw [hn_congr (n := n) (fun i hi => h i (by omega)), h (3 * n) (by omega), h (3 * n + 1) (by omega)]
theorem own_congr {f g : Nat → Int32} {n : Nat} (h : ∀ i, i < 3 * n → f i = g i) : ownI f n = ownI g n := anyB_congr fun k hk => by
  rw [h (3 * k) (by omega), h (3 * k + 1) (by omega)]
theorem in5 {v : Int32} (h : inI 0 5 v) : ∃ a, a < 6 ∧ v = nI a := by
  obtain ⟨n, h1, h2, -⟩ := inI_nat (hi := 5) (by decide) (by decide) h
  exact ⟨n, by omega, h2⟩
theorem lyD_anti {fv : Nat → Int32} : ∀ (n : Nat), (∀ k, k < n → inI 0 5 (fv (3 * k)) ∧ inI 0 5 (fv (3 * k + 1))) → ∀ a b, a < 6 → b < 6 → lyD fv n (6 * b + a) = -lyD fv n (6 * a + b)
  | 0, _, a, b, _, _ => by
    show (0 : Int32) = -0
    decide
  | n + 1, h, a, b, ha, hb => by
    have ih := lyD_anti n (fun k hk => h k (by omega))
    obtain ⟨x, hx, ex⟩ := in5 (h n (by omega)).1
    obtain ⟨y, hy, ey⟩ := in5 (h n (by omega)).2
    unfold lyD
    rw [ex, ey, tn_nI (by omega), tn_nI (by omega)]
    generalize fv (3 * n + 2) = v
    have ixy := ih x y hx hy
    have iab := ih a b ha hb
    generalize lyD fv n = D at *
    rw [upd6 (a := b) (b := a) ha hx, upd6 (a := b) (b := a) ha hy, upd6 (a := a) (b := b) hb hx, upd6 (a := a) (b := b) hb hy, upd6 (a := y) (b := x) hx hy]
    by_cases e : x = y
    · subst e
      rw [if_pos (c := x = x ∧ x = x) ⟨rfl, rfl⟩, Int32.add_sub_cancel]
      by_cases c1 : b = x ∧ a = x
      · rw [if_pos c1, if_pos ⟨c1.2, c1.1⟩]
        exact ixy
      · rw [if_neg c1, if_neg c1, if_neg (fun z => c1 ⟨z.2, z.1⟩), if_neg (fun z => c1 ⟨z.2, z.1⟩)]
        exact iab
    · rw [if_neg (c := y = x ∧ x = y) (fun z => e z.2)]
      by_cases c1 : b = y ∧ a = x
      · rw [if_pos c1, if_neg (fun z => e (c1.2.symm.trans z.1)), if_pos ⟨c1.2, c1.1⟩, ixy, Int32.neg_add]
      · rw [if_neg c1]
        by_cases c2 : b = x ∧ a = y
        · rw [if_pos c2, if_pos ⟨c2.2, c2.1⟩, ixy, ← Int32.neg_add, Int32.neg_neg]
        · rw [if_neg c2, if_neg (fun z => c2 ⟨z.2, z.1⟩), if_neg (fun z => c1 ⟨z.2, z.1⟩)]
          exact iab
theorem lyD_succ {fv : Nat → Int32} {k : Nat} : lyD fv (k + 1) = upd (upd (lyD fv k) (6 * tn (fv (3 * k)) + tn (fv (3 * k + 1))) (lyD fv k (6 * tn (fv (3 * k)) + tn (fv (3 * k + 1))) + fv (3 * k + 2))) (6 * tn (fv (3 * k + 1)) + tn (fv (3 * k))) (upd (lyD fv k) (6 * tn (fv (3 * k)) + tn (fv (3 * k + 1))) (lyD fv k (6 * tn (fv (3 * k)) + tn (fv (3 * k + 1))) + fv (3 * k + 2)) (6 * tn (fv (3 * k + 1)) + tn (fv (3 * k))) - fv (3 * k + 2)) := rfl
section V3
variable {S : XS} {c : Nat × Nat} {T : Nat → Int32} {L q : Nat} {b : Bool} {V : VD}
theorem a9_0 : aI (hp S c) 9 (0 : Int32) = some (S.1 9 0) := a9 (k := 0) (by decide)
theorem a9_1 : aI (hp S c) 9 (1 : Int32) = some (S.1 9 1) := a9 (k := 1) (by decide)
theorem a9_2 : aI (hp S c) 9 (2 : Int32) = some (S.1 9 2) := a9 (k := 2) (by decide)
theorem a9_3 : aI (hp S c) 9 (3 : Int32) = some (S.1 9 3) := a9 (k := 3) (by decide)
theorem a9_4 : aI (hp S c) 9 (4 : Int32) = some (S.1 9 4) := a9 (k := 4) (by decide)
theorem a9_5 : aI (hp S c) 9 (5 : Int32) = some (S.1 9 5) := a9 (k := 5) (by decide)
theorem a9_6 : aI (hp S c) 9 (6 : Int32) = some (S.1 9 6) := a9 (k := 6) (by decide)
theorem a9_7 : aI (hp S c) 9 (7 : Int32) = some (S.1 9 7) := a9 (k := 7) (by decide)
theorem rdS_wne {a r p : Nat} {f : Nat → Int32} (h : a ≠ r) : wA (rdS S r p b) a f = rdS (wA S a f) r p b := by
  unfold rdS
  rw [wA_comm h.symm, wA_ne h.symm]
theorem X9_tellRules (H : cV S V) : ∃ S', f_X9_tellRules (hp (rdS S 2 q b) c) 2 = some (hp (rdS S' 2 q b) c) ∧ cV S' (tell V 0 (fun j => S.1 9 (kfi 0 + j))) ∧ fr 2 9 S' S ∧ S'.1 2 1 = S.1 2 1 := by
  obtain ⟨h1, h2, h3, h4, h5, h6, h7, h8, h9, h10, h11, h12, h13⟩ := H
  unfold f_X9_tellRules
  rw [k2, Option.bind_some, g2_4, Option.bind_some, g2_5, Option.bind_some, show (0 : Int32) = nI 0 from rfl, a9 (by decide), Option.bind_some, B4.p7, Option.bind_some, rdS_wne (by decide), g2_4, Option.bind_some, g2_5, Option.bind_some, show (1 : Int32) = nI 1 from rfl, a9 (by decide), Option.bind_some, B4.p5, Option.bind_some, rdS_wne (by decide), p2_6, Option.bind_some, rdS_put (by decide) (by decide)]
  rw [rdS_ne (show (9 : Nat) ≠ 2 by decide), rdS_ne (show (9 : Nat) ≠ 2 by decide), rdS_ne (show (4 : Nat) ≠ 2 by decide), rdS_ne (show (4 : Nat) ≠ 2 by decide)]
  simp only [wA_wA, wA_same, wA_ne (show (9 : Nat) ≠ 4 by decide), wA_ne (show (2 : Nat) ≠ 4 by decide)]
  refine ⟨_, rfl, ?_, ?_, ?_⟩
  · unfold cV tell
    rw [if_pos rfl]
    simp only [wA_same, wA_ne (show (4 : Nat) ≠ 2 by decide), wA_ne (show (5 : Nat) ≠ 2 by decide), wA_ne (show (5 : Nat) ≠ 4 by decide), wA_ne (show (6 : Nat) ≠ 2 by decide), wA_ne (show (6 : Nat) ≠ 4 by decide), wA_ne (show (7 : Nat) ≠ 2 by decide), wA_ne (show (7 : Nat) ≠ 4 by decide), wA_ne (show (8 : Nat) ≠ 2 by decide), wA_ne (show (8 : Nat) ≠ 4 by decide)]
    exact ⟨rfl, h2, h3, h4, h5, rfl, h7, rfl, h9, h10, h11, h12, h13⟩
  · exact fr.trans (fr.wA (by decide) (by decide)) (fr.wA (by decide) (by decide))
  · rw [wA_same]
    rfl
theorem X9_tellHouse (H : cV S V) (hlt : V.2.1.1 < 6) : ∃ S', f_X9_tellHouse (hp (rdS S 2 q b) c) 2 = some (hp (rdS S' 2 q b) c) ∧ cV S' (tell V 1 (fun j => S.1 9 (kfi 1 + j))) ∧ fr 2 9 S' S ∧ S'.1 2 1 = S.1 2 1 := by
  obtain ⟨h1, h2, h3, h4, h5, h6, h7, h8, h9, h10, h11, h12, h13⟩ := H
  unfold f_X9_tellHouse
  have n42 : (4 + 2 : Nat) ≠ 2 := by decide
  have n43 : (4 + 3 : Nat) ≠ 2 := by decide
  have n4 : (4 : Nat) ≠ 2 := by decide
  have n9 : (9 : Nat) ≠ 2 := by decide
  simp only [k2, g2_4, g2_5, B4.g4, B4.g1, B4.g2, B4.g6, a9_2, a9_3, a9_4, Option.bind_some, rdS_ne n4, rdS_ne n9, rdS_ne n42, rdS_ne n43, h5, B4.q2 hlt, B4.q3 hlt, B4.p6, B4.p4, rdS_wne n42, rdS_wne n43, rdS_wne n4, wA_wA, wA_same, wA_ne (show (9 : Nat) ≠ 4 by decide), wA_ne (show (9 : Nat) ≠ 4 + 2 by decide), wA_ne (show (9 : Nat) ≠ 4 + 3 by decide), wA_ne (show (4 : Nat) ≠ 4 + 2 by decide), wA_ne (show (4 : Nat) ≠ 4 + 3 by decide), wA_ne (show (4 + 3 : Nat) ≠ 4 + 2 by decide)]
  refine ⟨_, rfl, ?_, ?_, ?_⟩
  · unfold cV tell
    rw [if_neg (by decide), if_pos rfl]
    simp only [wA_same, wA_ne (show (2 : Nat) ≠ 4 by decide), wA_ne (show (2 : Nat) ≠ 4 + 2 by decide), wA_ne (show (2 : Nat) ≠ 4 + 3 by decide), wA_ne (show (5 : Nat) ≠ 4 by decide), wA_ne (show (5 : Nat) ≠ 4 + 2 by decide), wA_ne (show (5 : Nat) ≠ 4 + 3 by decide), wA_ne (show (8 : Nat) ≠ 4 by decide), wA_ne (show (8 : Nat) ≠ 4 + 2 by decide), wA_ne (show (8 : Nat) ≠ 4 + 3 by decide), wA_ne (show (6 : Nat) ≠ 4 by decide), wA_ne (show (6 : Nat) ≠ 4 + 3 by decide), wA_ne (show (7 : Nat) ≠ 4 by decide), show (6 : Nat) = 4 + 2 from rfl, show (7 : Nat) = 4 + 3 from rfl, wA_ne (show (4 + 2 : Nat) ≠ 4 by decide), wA_ne (show (4 + 2 : Nat) ≠ 4 + 3 by decide), wA_ne (show (4 + 3 : Nat) ≠ 4 by decide)]
    refine ⟨h1, h2, h3, h4, ?_, ?_, ?_, ?_, ?_, h10, fun h hh => ?_, fun h hh => ?_, h13⟩
    · rw [upd_same, upd_ne (by decide), h5, nI_1]
    · rw [upd_ne (by decide), upd_ne (by decide)]
      exact h6
    · rw [upd_ne (by decide), upd_same, h7]
      show lyK V.2.1.2 V.2.1.1 ||| shl (S.1 9 4) (nI V.2.1.1) = lyK (put3 V.2.1.2 V.2.1.1 fun j => S.1 9 (kfi 1 + j)) V.2.1.1 ||| shl (put3 V.2.1.2 V.2.1.1 (fun j => S.1 9 (kfi 1 + j)) (3 * V.2.1.1 + 2)) (nI V.2.1.1)
      rw [put3_2, lyK_congr (f := put3 V.2.1.2 V.2.1.1 fun j => S.1 9 (kfi 1 + j)) (g := V.2.1.2) (fun i hi => put3_lt hi)]
      rfl
    · rw [upd_ne (by decide), upd_ne (by decide)]
      exact h8
    · rw [upd_ne (by decide), upd_ne (by decide)]
      exact h9
    · show upd (S.1 6) V.2.1.1 (S.1 9 2) h = if h < V.2.1.1 + 1 then put3 V.2.1.2 V.2.1.1 (fun j => S.1 9 (kfi 1 + j)) (3 * h) else 0
      unfold upd
      by_cases e : h = V.2.1.1
      · rw [if_pos e, if_pos (by omega), e, put3_0]
        rfl
      · rw [if_neg e, h11 h hh]
        by_cases e2 : h < V.2.1.1
        · rw [if_pos e2, if_pos (by omega), put3_lt (by omega)]
        · rw [if_neg e2, if_neg (by omega)]
    · show upd (S.1 7) V.2.1.1 (S.1 9 3) h = put3 V.2.1.2 V.2.1.1 (fun j => S.1 9 (kfi 1 + j)) (3 * h + 1)
      have hh' : h < V.2.1.1 + 1 := hh
      unfold upd
      by_cases e : h = V.2.1.1
      · rw [if_pos e, e, put3_1]
        rfl
      · rw [if_neg e, h12 h (by omega), put3_lt (by omega)]
  · exact fr.trans (fr.trans (fr.wA (by decide) (by decide)) (fr.wA (by decide) (by decide))) (fr.wA (by decide) (by decide))
  · rw [wA_ne (by decide), wA_ne (by decide), wA_ne (by decide)]
theorem X9_tellFavours (H : cV S V) (hV : vIn V) (hF : kIn 2 (fun j => S.1 9 (kfi 2 + j))) : ∃ S', f_X9_tellFavours (hp (rdS S 2 q b) c) 2 = some (hp (rdS S' 2 q b) c) ∧ cV S' (tell V 2 (fun j => S.1 9 (kfi 2 + j))) ∧ fr 2 9 S' S ∧ S'.1 2 1 = S.1 2 1 := by
  obtain ⟨h1, h2, h3, h4, h5, h6, h7, h8, h9, h10, h11, h12, h13⟩ := H
  obtain ⟨x, hx, ex⟩ := in5 (v := S.1 9 5) (hF 0 (by decide))
  obtain ⟨y, hy, ey⟩ := in5 (v := S.1 9 6) (hF 1 (by decide))
  have cg : ∀ i, i < 3 * V.2.2.1.1 → put3 V.2.2.1.2 V.2.2.1.1 (fun j => S.1 9 (kfi 2 + j)) i = V.2.2.1.2 i := fun i hi => put3_lt hi
  have e0 : put3 V.2.2.1.2 V.2.2.1.1 (fun j => S.1 9 (kfi 2 + j)) (3 * V.2.2.1.1) = S.1 9 5 := put3_0
  have e1 : put3 V.2.2.1.2 V.2.2.1.1 (fun j => S.1 9 (kfi 2 + j)) (3 * V.2.2.1.1 + 1) = S.1 9 6 := put3_1
  have e2 : put3 V.2.2.1.2 V.2.2.1.1 (fun j => S.1 9 (kfi 2 + j)) (3 * V.2.2.1.1 + 2) = S.1 9 7 := put3_2
  have hhn : hn (put3 V.2.2.1.2 V.2.2.1.1 (fun j => S.1 9 (kfi 2 + j))) (V.2.2.1.1 + 1) = imax (hn V.2.2.1.2 V.2.2.1.1) (imax (S.1 9 5) (S.1 9 6)) := by
    show imax (hn _ V.2.2.1.1) (imax _ _) = _
    rw [hn_congr cg, e0, e1]
  have how : ownI (put3 V.2.2.1.2 V.2.2.1.1 (fun j => S.1 9 (kfi 2 + j))) (V.2.2.1.1 + 1) = (ownI V.2.2.1.2 V.2.2.1.1 || decide (S.1 9 5 = S.1 9 6)) := by
    show (ownI _ V.2.2.1.1 || decide (_ = _)) = _
    rw [own_congr cg, e0, e1]
  have hly : lyD (put3 V.2.2.1.2 V.2.2.1.1 (fun j => S.1 9 (kfi 2 + j))) (V.2.2.1.1 + 1) = upd (upd (lyD V.2.2.1.2 V.2.2.1.1) (6 * x + y) (lyD V.2.2.1.2 V.2.2.1.1 (6 * x + y) + S.1 9 7)) (6 * y + x) (upd (lyD V.2.2.1.2 V.2.2.1.1) (6 * x + y) (lyD V.2.2.1.2 V.2.2.1.1 (6 * x + y) + S.1 9 7) (6 * y + x) - S.1 9 7) := by
    rw [lyD_succ, lyD_congr cg, e0, e1, e2, ex, ey, tn_nI (by omega), tn_nI (by omega)]
  have anti := lyD_anti (fv := V.2.2.1.2) V.2.2.1.1 (fun k hk => ⟨(hV.2.2.2.2.2 k hk).1, (hV.2.2.2.2.2 k hk).2.1⟩) x y hx hy
  unfold f_X9_tellFavours
  have n9 : (9 : Nat) ≠ 2 := by decide
  simp only [k2, g2_4, g2_5, a9_5, a9_6, g2_7, p2_7, g2_8, p2_8, Option.bind_some, rdS_put (show (7 : Nat) ≠ 2 by decide) (show (7 : Nat) ≠ 3 by decide), rdS_put (show (8 : Nat) ≠ 2 by decide) (show (8 : Nat) ≠ 3 by decide), rdS_ne n9, wA_wA, wA_same, rdS_k (show (7 : Nat) ≠ 2 by decide) (show (7 : Nat) ≠ 3 by decide), rdS_k (show (8 : Nat) ≠ 2 by decide) (show (8 : Nat) ≠ 3 by decide), upd_ne (show (8 : Nat) ≠ 7 by decide)]
  rw [show tell V 2 (fun j => S.1 9 (kfi 2 + j)) = (V.1, V.2.1, (V.2.2.1.1 + 1, put3 V.2.2.1.2 V.2.2.1.1 (fun j => S.1 9 (kfi 2 + j))), V.2.2.2) from rfl]
  unfold cV
  by_cases e : x = y
  · have e' : S.1 9 5 = S.1 9 6 := by rw [ex, ey, e]
    have hsame : lyD (put3 V.2.2.1.2 V.2.2.1.1 (fun j => S.1 9 (kfi 2 + j))) (V.2.2.1.1 + 1) = lyD V.2.2.1.2 V.2.2.1.1 := by
      rw [hly, e, upd_upd, upd_same, Int32.add_sub_cancel, upd_self]
    rw [if_pos e', p2_9, Option.bind_some, rdS_put (by decide) (by decide), wA_wA, wA_same]
    refine ⟨_, rfl, ?_, fr.wA (by decide) (by decide), by rw [wA_same]; rfl⟩
    simp only [wA_same, wA_ne (show (4 : Nat) ≠ 2 by decide), wA_ne (show (5 : Nat) ≠ 2 by decide), wA_ne (show (6 : Nat) ≠ 2 by decide), wA_ne (show (7 : Nat) ≠ 2 by decide), wA_ne (show (8 : Nat) ≠ 2 by decide)]
    refine ⟨h1, ?_, ?_, ?_, h5, h6, h7, h8, h9, ?_, h11, h12, h13⟩
    · rw [upd_ne (by decide), upd_ne (by decide), upd_same, h2, nI_1]
    · rw [upd_ne (by decide), upd_same, hhn, h3]
    · rw [upd_same, how, decide_eq_true e', Bool.or_true]
      rfl
    · rw [hsame]
      exact h10
  · have e' : ¬ S.1 9 5 = S.1 9 6 := fun z => by
      rw [ex, ey, nI_eq (by omega) (by omega)] at z
      exact e z
    rw [if_neg e', ex, ey, B4.debt hx hy, Option.bind_some, a9_7, Option.bind_some, B4.setDebt hx hy, Option.bind_some, rdS_wne (by decide), rdS_ne (show (9 : Nat) ≠ 2 by decide), rdS_ne (show (4 + 1 : Nat) ≠ 2 by decide), wA_ne (show (9 : Nat) ≠ 2 by decide), wA_ne (show (4 + 1 : Nat) ≠ 2 by decide)]
    refine ⟨_, rfl, ?_, fr.trans (fr.wA (by decide) (by decide)) (fr.wA (by decide) (by decide)), by rw [wA_ne (by decide), wA_same]; rfl⟩
    simp only [show (5 : Nat) = 4 + 1 from rfl, wA_same, wA_ne (show (2 : Nat) ≠ 4 + 1 by decide), wA_ne (show (4 : Nat) ≠ 4 + 1 by decide), wA_ne (show (6 : Nat) ≠ 4 + 1 by decide), wA_ne (show (7 : Nat) ≠ 4 + 1 by decide), wA_ne (show (8 : Nat) ≠ 4 + 1 by decide), wA_ne (show (4 : Nat) ≠ 2 by decide), wA_ne (show (6 : Nat) ≠ 2 by decide), wA_ne (show (7 : Nat) ≠ 2 by decide), wA_ne (show (8 : Nat) ≠ 2 by decide)]
    refine ⟨h1, ?_, ?_, ?_, h5, h6, h7, h8, h9, fun k hk => ?_, h11, h12, h13⟩
    · rw [upd_ne (by decide), upd_same, h2, nI_1]
    · rw [upd_same, hhn, h3, ex, ey]
    · rw [upd_ne (by decide), upd_ne (by decide), how, decide_eq_false e', Bool.or_false]
      exact h4
    · rw [hly]
      show upd (upd (S.1 5) (6 * x + y) (S.1 5 (6 * x + y) + S.1 9 7)) (6 * y + x) (-(S.1 5 (6 * x + y) + S.1 9 7)) k = _
      rw [h10 (6 * x + y) (by omega)]
      unfold upd
      by_cases c1 : k = 6 * y + x
      · rw [if_pos c1, if_pos c1, if_neg (by omega), anti, Int32.neg_add]
      · rw [if_neg c1, if_neg c1]
        by_cases c2 : k = 6 * x + y
        · rw [if_pos c2, if_pos c2]
        · rw [if_neg c2, if_neg c2]
          exact h10 k hk
end V3
