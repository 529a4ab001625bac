/-! WALK: the places of the tables -/
theorem and2047 (v : Int32) : nI (v.toBitVec &&& 2047#32).toNat = v &&& 2047 ∧ (v.toBitVec &&& 2047#32).toNat < 2048 := by
  have hlt : (v.toBitVec &&& 2047#32).toNat < 2048 := by
    rw [BitVec.toNat_and]
    exact Nat.and_lt_two_pow _ (n := 11) (by decide)
  refine ⟨Int32.toBitVec_inj.mp ?_, hlt⟩
  rw [Int32.toBitVec_and]
  show BitVec.ofNat 32 (v.toBitVec &&& 2047#32).toNat = v.toBitVec &&& 2047#32
  rw [BitVec.ofNat_toNat, BitVec.setWidth_eq]
theorem and_step {p : Nat} (hp : p < 2048) : (nI p + 1) &&& 2047 = nI ((p + 1) % 2048) := by
  rw [nI_1]
  refine Int32.toBitVec_inj.mp (BitVec.eq_of_toNat_eq ?_)
  rw [Int32.toBitVec_and, BitVec.toNat_and]
  show (BitVec.ofNat 32 (p + 1)).toNat &&& (2047#32).toNat = (BitVec.ofNat 32 ((p + 1) % 2048)).toNat
  have e1 : (BitVec.ofNat 32 (p + 1)).toNat = p + 1 := by rw [BitVec.toNat_ofNat, Nat.mod_eq_of_lt (by omega)]
  have e2 : (BitVec.ofNat 32 ((p + 1) % 2048)).toNat = (p + 1) % 2048 := by rw [BitVec.toNat_ofNat, Nat.mod_eq_of_lt (by omega)]
  rw [e1, e2]
  exact Nat.and_two_pow_sub_one_eq_mod (p + 1) 11
def hsh (K : Int64 × Int64) : Nat := ((lushr (((K.1 * (31 : Int64)) + K.2) * (-7046029254386353131 : Int64)) (53 : Int32)).toInt32.toBitVec &&& 2047#32).toNat
theorem hsh_lt {K : Int64 × Int64} : hsh K < 2048 := (and2047 _).2
def pl (K : Int64 × Int64) (i : Nat) : Nat := (hsh K + i) % 2048
theorem pl_lt {K : Int64 × Int64} {i : Nat} : pl K i < 2048 := Nat.mod_lt _ (by decide)
theorem pl_all {K : Int64 × Int64} {p : Nat} (hp : p < 2048) : ∃ i, i < 2048 ∧ pl K i = p := by
  have := hsh_lt (K := K)
  refine ⟨(p + 2048 - hsh K) % 2048, Nat.mod_lt _ (by decide), ?_⟩
  unfold pl
  omega
def occ (S : XS) (p : Nat) : Prop := S.1 275 p = S.1 271 4
def kyP (S : XS) (p : Nat) : Int64 × Int64 := (S.2.1 273 p, S.2.1 274 p)
def insT (S : XS) (p : Nat) (K : Int64 × Int64) : XS := wA (wL (wL (wA S 275 (upd (S.1 275) p (S.1 271 4))) 273 (vp_updL (S.2.1 273) p K.1)) 274 (vp_updL (S.2.1 274) p K.2)) 271 (upd (S.1 271) 5 (S.1 271 5 + 1))
section W4
variable {S : XS} {c : Nat × Nat} {K : Int64 × Int64}
theorem fill_run : ∀ (m j n : Nat), j + m = 2048 → m < n → (∀ i, i < j → occ S (pl K i) ∧ kyP S (pl K i) ≠ K) →
    (∃ i, i < 2048 ∧ occ S (pl K i) ∧ kyP S (pl K i) = K ∧ f_X10_fillIn_b24 n (hp S c) 271 K.1 K.2 (nI (pl K j)) (nI j) = some (hp S c)) ∨
    (∃ i, i < 2048 ∧ (∀ i', i' < i → occ S (pl K i') ∧ kyP S (pl K i') ≠ K) ∧ ¬ occ S (pl K i) ∧ f_X10_fillIn_b24 n (hp S c) 271 K.1 K.2 (nI (pl K j)) (nI j) = some (hp (insT S (pl K i) K) c)) ∨
    ((∀ i, i < 2048 → occ S (pl K i) ∧ kyP S (pl K i) ≠ K) ∧ f_X10_fillIn_b24 n (hp S c) 271 K.1 K.2 (nI (pl K j)) (nI j) = some (hp S c))
  | 0, j, n, hj, hn, hi => by
    obtain ⟨n, rfl⟩ : ∃ q, n = q + 1 := ⟨n - 1, by omega⟩
    right
    right
    refine ⟨fun i h => hi i (by omega), ?_⟩
    rw [f_X10_fillIn_b24, if_pos (by rw [show (2048 : Int32) = nI 2048 from rfl]; exact nI_le (by omega) (by omega))]
  | m + 1, j, n, hj, hn, hi => by
    obtain ⟨n, rfl⟩ : ∃ q, n = q + 1 := ⟨n - 1, by omega⟩
    have hpl := pl_lt (K := K) (i := j)
    have es : ((nI (pl K j) + 1) &&& 2047) = nI (pl K (j + 1)) := by
      rw [and_step hpl]
      unfold pl
      rw [Nat.mod_add_mod, Nat.add_assoc]
    rw [f_X10_fillIn_b24, if_neg (by rw [show (2048 : Int32) = nI 2048 from rfl]; exact nI_ge (by omega) (by omega)), g271_3, Option.bind_some, a275 hpl, Option.bind_some, g271_4, Option.bind_some]
    by_cases e : S.1 275 (pl K j) = S.1 271 4
    · rw [if_pos e, g271_1, Option.bind_some, a273 hpl, Option.bind_some]
      have nx : kyP S (pl K j) ≠ K → ∀ i, i < j + 1 → occ S (pl K i) ∧ kyP S (pl K i) ≠ K := by
        intro z i h
        by_cases e' : i = j
        · rw [e']
          exact ⟨e, z⟩
        · exact hi i (by omega)
      have go : f_X10_fillIn_b109 (fun h l0 l1 l3 l5 l6 => f_X10_fillIn_b24 n h l0 l1 l3 l5 l6) (hp S c) 271 K.1 K.2 (nI (pl K j)) (nI j) = f_X10_fillIn_b24 n (hp S c) 271 K.1 K.2 (nI (pl K (j + 1))) (nI (j + 1)) := by
        unfold f_X10_fillIn_b109
        rw [es, nI_1]
      by_cases e1 : S.2.1 273 (pl K j) = K.1
      · rw [if_pos ((lg_cmp_eq _ _).mpr e1), g271_2, Option.bind_some, a274 hpl, Option.bind_some]
        by_cases e2 : S.2.1 274 (pl K j) = K.2
        · rw [if_pos ((lg_cmp_eq _ _).mpr e2)]
          left
          exact ⟨j, by omega, e, by unfold kyP; rw [e1, e2], rfl⟩
        · rw [if_neg (fun z => e2 ((lg_cmp_eq _ _).mp z)), go]
          exact fill_run m (j + 1) n (by omega) (by omega) (nx (fun z => e2 (congrArg Prod.snd z)))
      · rw [if_neg (fun z => e1 ((lg_cmp_eq _ _).mp z)), go]
        exact fill_run m (j + 1) n (by omega) (by omega) (nx (fun z => e1 (congrArg Prod.fst z)))
    · rw [if_neg e]
      right
      left
      refine ⟨j, by omega, hi, e, ?_⟩
      rw [Option.bind_some, Option.bind_some, q275 hpl, Option.bind_some, g271_1, Option.bind_some, q273 hpl, Option.bind_some, g271_2, Option.bind_some, q274 hpl, Option.bind_some, g271_5, Option.bind_some, p271_5, Option.bind_some]
      rfl
theorem X10_fillIn : (∃ i, i < 2048 ∧ occ S (pl K i) ∧ kyP S (pl K i) = K ∧ f_X10_fillIn (hp S c) 271 K.1 K.2 = some (hp S c)) ∨
    (∃ i, i < 2048 ∧ (∀ i', i' < i → occ S (pl K i') ∧ kyP S (pl K i') ≠ K) ∧ ¬ occ S (pl K i) ∧ f_X10_fillIn (hp S c) 271 K.1 K.2 = some (hp (insT S (pl K i) K) c)) ∨
    ((∀ i, i < 2048 → occ S (pl K i) ∧ kyP S (pl K i) ≠ K) ∧ f_X10_fillIn (hp S c) 271 K.1 K.2 = some (hp S c)) := by
  have h := fill_run (S := S) (c := c) (K := K) 2048 0 1048576 rfl (by decide) (fun i h => by omega)
  have e : f_X10_fillIn (hp S c) 271 K.1 K.2 = f_X10_fillIn_b24 1048576 (hp S c) 271 K.1 K.2 (nI (pl K 0)) (nI 0) := by
    unfold f_X10_fillIn
    rw [k271, Option.bind_some, ← (and2047 _).1]
    have : pl K 0 = hsh K := by
      unfold pl
      rw [Nat.add_zero, Nat.mod_eq_of_lt hsh_lt]
    rw [this]
    rfl
  rw [e]
  exact h
end W4
def kkT (t : List Int32) : Int64 × Int64 := keyT (fun k => t.getD k 0)
theorem pkL_congr {D D' : Nat → Int32} (h : ∀ k, k < 36 → D k = D' k) : ∀ (l : List (Nat × Nat)) (a : Nat), (∀ q, q ∈ l → q.1 < 6 ∧ q.2 < 6) → pkL D l a = pkL D' l a
  | [], a, _ => rfl
  | q :: t, a, hl => by
    have b := hl q List.mem_cons_self
    show pkL D t _ = pkL D' t _
    rw [show hN D q.1 q.2 = hN D' q.1 q.2 by unfold hN; rw [h _ (by omega)]]
    exact pkL_congr h t _ (fun q hq => hl q (List.mem_cons_of_mem _ hq))
theorem keyT_congr {D D' : Nat → Int32} (h : ∀ k, k < 36 → D k = D' k) : keyT D = keyT D' := by
  unfold keyT
  rw [pkL_congr h PA 0 PA6, pkL_congr h PB 0 PB6]
theorem tbl_get {Q : BS} {k : Nat} (hk : k < 36) : (tbl Q).getD k 0 = Q.1 k := by
  unfold tbl
  rw [List.getD_eq_getElem?_getD, List.getElem?_map, List.getElem?_range hk]
  rfl
theorem kkT_tbl {Q : BS} : kkT (tbl Q) = keyT Q.1 := keyT_congr fun _ hk => tbl_get hk
def addF (acc : List (List Int32)) (x : ND) : List (List Int32) := if tbl x.2.2 ∈ acc then acc else if acc.length = 2048 then acc else acc ++ [tbl x.2.2]
theorem addF_T : ∀ (L : List ND) (acc : List (List Int32)), acc.length + L.length ≤ 2047 → L.foldl addF acc = L.foldl addT acc
  | [], acc, _ => rfl
  | x :: L, acc, h => by
    rw [List.length_cons] at h
    have e : addF acc x = addT acc x := by
      unfold addF addT
      rw [if_neg (show ¬ acc.length = 2048 by omega)]
    have hl : (addT acc x).length ≤ acc.length + 1 := by
      unfold addT
      split
      · omega
      · rw [List.length_append]
        exact Nat.le_refl _
    rw [List.foldl_cons, List.foldl_cons, e]
    exact addF_T L _ (by omega)
def rhoT (g : Nat → Int32) (S : XS) (T : List (List Int32)) : Prop := (∀ p, p < 2048 → occ S p ∨ S.1 275 p = g p) ∧ S.1 271 7 = 0 ∧ S.1 271 8 = 1000000 ∧ S.1 271 5 = nI T.length ∧ T.length ≤ 2048 ∧ (∀ t, t ∈ T → ∃ Q : BS, An Q.1 ∧ t = tbl Q) ∧ (∀ p, p < 2048 → occ S p → ∃ t, t ∈ T ∧ kyP S p = kkT t) ∧ (∀ t, t ∈ T → ∃ i, i < 2048 ∧ occ S (pl (kkT t) i) ∧ kyP S (pl (kkT t) i) = kkT t ∧ ∀ i', i' < i → occ S (pl (kkT t) i')) ∧ ∃ P : List Nat, P.Nodup ∧ P.length = T.length ∧ ∀ p, p ∈ P ↔ p < 2048 ∧ occ S p
section W5
variable {N most : Nat} {kp lim : Int32} {c : Nat × Nat}
theorem ins_occ {S : XS} {p q : Nat} {K : Int64 × Int64} : occ (insT S p K) q ↔ q = p ∨ occ S q := by
  unfold occ insT
  rw [wA_ne (show (275 : Nat) ≠ 271 by decide), wA_same]
  show upd (S.1 275) p (S.1 271 4) q = S.1 271 4 ↔ _
  unfold upd
  by_cases e : q = p
  · rw [if_pos e]
    exact ⟨fun _ => Or.inl e, fun _ => rfl⟩
  · rw [if_neg e]
    exact ⟨Or.inr, fun z => z.elim (fun y => absurd y e) id⟩
theorem ins_ky {S : XS} {p q : Nat} {K : Int64 × Int64} : kyP (insT S p K) q = if q = p then K else kyP S q := by
  show (vp_updL (S.2.1 273) p K.1 q, vp_updL (S.2.1 274) p K.2 q) = _
  unfold vp_updL
  by_cases e : q = p
  · rw [if_pos e, if_pos e, if_pos e]
  · rw [if_neg e, if_neg e, if_neg e]
    rfl
theorem ins_fr {S : XS} {p : Nat} {K : Int64 × Int64} : frW 100 (insT S p K) S := by
  refine ⟨fun a z => ?_, fun a p q => ?_, rfl, rfl, rfl, rfl, fun a p q => ?_⟩
  · unfold insT
    rw [wA_ne (by omega)]
    exact wA_ne (by omega)
  · unfold insT
    rw [wA_ne (by omega)]
    exact wA_ne (by omega)
  · show (if a = 274 then _ else if a = 273 then _ else S.2.1 a) = S.2.1 a
    rw [if_neg q, if_neg p]
theorem X10_weighT {g : Nat → Int32} (hm : most ≤ 4) : wOK N kp lim most c (rhoT g) addF := by
  refine ⟨fun S S' a h e1 e2 e3 => ?_, fun S T d last row Q hρ hd hr V H => ?_⟩
  · unfold rhoT occ kyP at h ⊢
    rw [e1, e2, e3]
    exact h
  · have hρ' := hρ
    obtain ⟨r0, r1, r2, r3, r4, r5, r6, r7, P, p1, p2, p3⟩ := hρ
    have B := Bp d (by omega)
    have A : An (S.1 (276 + 5 * d + 1)) := V.1.congr H.2.2.2.1
    have eS : f_X10_weigh (hp S c) 271 (276 + 5 * d) (nI d) (nI row) = f_X10_fillIn (hp S c) 271 (keyT Q.1).1 (keyT Q.1).2 := by
      unfold f_X10_weigh
      rw [k271, Option.bind_some, g271_7, Option.bind_some, r1, if_pos rfl, X10_addTable B A, keyT_congr H.2.2.2.1]
      cases f_X10_fillIn (hp S c) 271 (keyT Q.1).1 (keyT Q.1).2 <;> rfl
    have inj : ∀ t, t ∈ T → kkT t = keyT Q.1 → t = tbl Q := by
      intro t ht hk
      obtain ⟨Q', A', rfl⟩ := r5 t ht
      rw [kkT_tbl] at hk
      exact tbl_eq.mpr (keyT_inj A' V.1 hk)
    rw [eS]
    rcases X10_fillIn (S := S) (c := c) (K := keyT Q.1) with ⟨i, i1, i2, i3, i4⟩ | ⟨i, i1, i2, i3, i4⟩ | ⟨i1, i4⟩
    · have hin : tbl Q ∈ T := by
        obtain ⟨t, t1, t2⟩ := r6 _ pl_lt i2
        rw [i3] at t2
        rw [← inj t t1 t2.symm]
        exact t1
      have ef : addF T (d, row, Q) = T := if_pos hin
      rw [ef]
      exact ⟨S, i4, hρ', frW.refl, fun z => by rw [r2] at z; exact absurd z (by decide)⟩
    · have hni : ¬ tbl Q ∈ T := by
        intro hin
        obtain ⟨i0, a1, a2, a3, a4⟩ := r7 _ hin
        rw [kkT_tbl] at a2 a3 a4
        rcases Nat.lt_trichotomy i0 i with z | z | z
        · exact (i2 i0 z).2 a3
        · rw [z] at a2
          exact i3 a2
        · exact i3 (a4 i z)
      have hnp : ¬ pl (keyT Q.1) i ∈ P := fun z => i3 ((p3 _).mp z).2
      have hlen : T.length < 2048 := by
        have := List.Nodup.length_le_of_subset (l₁ := pl (keyT Q.1) i :: P) (l₂ := List.range 2048) (List.nodup_cons.mpr ⟨hnp, p1⟩) (fun q hq => by
          rw [List.mem_range]
          rcases List.mem_cons.mp hq with z | z
          · rw [z]
            exact pl_lt
          · exact ((p3 q).mp z).1)
        rw [List.length_cons, List.length_range] at this
        omega
      have ef : addF T (d, row, Q) = T ++ [tbl Q] := by
        unfold addF
        rw [if_neg hni, if_neg (by omega)]
      rw [ef]
      refine ⟨insT S (pl (keyT Q.1) i) (keyT Q.1), i4, ⟨?_, r1, r2, ?_, ?_, ?_, ?_, ?_, pl (keyT Q.1) i :: P, ?_, ?_, ?_⟩, ins_fr, fun z => ?_⟩
      · intro q hq
        by_cases e : q = pl (keyT Q.1) i
        · exact Or.inl (ins_occ.mpr (Or.inl e))
        · refine (r0 q hq).imp (fun z => ins_occ.mpr (Or.inr z)) (fun z => ?_)
          unfold insT
          rw [wA_ne (show (275 : Nat) ≠ 271 by decide)]
          show upd (S.1 275) (pl (keyT Q.1) i) (S.1 271 4) q = g q
          rw [upd_ne e]
          exact z
      · show S.1 271 5 + 1 = _
        rw [r3, nI_1, List.length_append]
        rfl
      · rw [List.length_append]
        show T.length + 1 ≤ 2048
        omega
      · intro t ht
        rcases List.mem_append.mp ht with z | z
        · exact r5 t z
        · exact ⟨Q, V.1, List.mem_singleton.mp z⟩
      · intro q hq ho
        rw [ins_ky]
        by_cases e : q = pl (keyT Q.1) i
        · rw [if_pos e]
          exact ⟨tbl Q, List.mem_append.mpr (Or.inr (List.mem_singleton.mpr rfl)), kkT_tbl.symm⟩
        · rw [if_neg e]
          obtain ⟨t, t1, t2⟩ := r6 q hq ((ins_occ.mp ho).resolve_left e)
          exact ⟨t, List.mem_append.mpr (Or.inl t1), t2⟩
      · intro t ht
        rcases List.mem_append.mp ht with z | z
        · obtain ⟨i0, a1, a2, a3, a4⟩ := r7 t z
          refine ⟨i0, a1, ins_occ.mpr (Or.inr a2), ?_, fun i' h => ins_occ.mpr (Or.inr (a4 i' h))⟩
          rw [ins_ky, if_neg (show ¬ pl (kkT t) i0 = pl (keyT Q.1) i from fun y => i3 (y ▸ a2))]
          exact a3
        · rw [List.mem_singleton.mp z, kkT_tbl]
          refine ⟨i, i1, ins_occ.mpr (Or.inl rfl), ?_, fun i' h => ins_occ.mpr (Or.inr (i2 i' h).1)⟩
          rw [ins_ky, if_pos rfl]
      · exact List.nodup_cons.mpr ⟨hnp, p1⟩
      · rw [List.length_cons, List.length_append, p2]
        rfl
      · intro q
        rw [List.mem_cons, p3, ins_occ]
        constructor
        · rintro (z | z)
          · exact ⟨by rw [z]; exact pl_lt, Or.inl z⟩
          · exact ⟨z.1, Or.inr z.2⟩
        · rintro ⟨z, (y | y)⟩
          · exact Or.inl y
          · exact Or.inr ⟨z, y⟩
      · have z' : S.1 271 8 = 0 := z
        rw [r2] at z'
        exact absurd z' (by decide)
    · have hlen : T.length = 2048 := by
        have := List.Nodup.length_le_of_subset (l₁ := List.range 2048) (l₂ := P) List.nodup_range (fun q hq => by
          rw [List.mem_range] at hq
          obtain ⟨i, h1, h2⟩ := pl_all (K := keyT Q.1) hq
          rw [p3, ← h2]
          exact ⟨pl_lt, (i1 i h1).1⟩)
        rw [List.length_range] at this
        omega
      have ef : addF T (d, row, Q) = T := by
        unfold addF
        rw [if_pos hlen]
        split <;> rfl
      rw [ef]
      exact ⟨S, i4, hρ', frW.refl, fun z => by rw [r2] at z; exact absurd z (by decide)⟩
end W5
