/-! HEAPS AS LISTS, for the constructors -/
def hl (L : List xa_C) (s : Nat) : xa_H := (fun a => L[a]?, L.length, s)
def zA (n : Nat) : xa_C := .inl (0, n, .inl (fun _ => 0))
section HLS
variable {L T : List xa_C} {o o' cell : xa_C} {s k ci : Nat} {fs : List Value} {cs : List Nat} {β : Type}
theorem hl_nC (h : L.length < 100000000) : nC (hl L s) cell k = some (hl (L ++ [cell]) (s + k)) := by
  unfold nC
  rw [if_pos (show (hl L s).2.1 < 100000000 from h)]
  unfold xn hl
  congr 1
  refine Prod.ext (funext fun j => ?_) (Prod.ext ?_ rfl)
  · show (if j = L.length then some cell else L[j]?) = (L ++ [cell])[j]?
    by_cases e : j = L.length
    · rw [if_pos e, e, List.getElem?_append_right (Nat.le_refl _), Nat.sub_self]
      rfl
    · rw [if_neg e]
      by_cases q : j < L.length
      · rw [List.getElem?_append_left q]
      · rw [List.getElem?_append_right (by omega), List.getElem?_eq_none (by omega), List.getElem?_eq_none (by show 1 ≤ _; omega)]
  · show L.length + 1 = (L ++ [cell]).length
    rw [List.length_append]
    rfl
theorem mid_get : (L ++ o :: T)[L.length]? = some o := by
  rw [List.getElem?_append_right (Nat.le_refl _), Nat.sub_self]
  rfl
theorem mid_set : xu (hl (L ++ o :: T) s) L.length o' = hl (L ++ o' :: T) s := by
  unfold xu hl
  refine Prod.ext (funext fun j => ?_) (Prod.ext ?_ rfl)
  · show (if j = L.length then some o' else (L ++ o :: T)[j]?) = (L ++ o' :: T)[j]?
    by_cases e : j = L.length
    · rw [if_pos e, e, mid_get]
    · rw [if_neg e]
      by_cases q : j < L.length
      · rw [List.getElem?_append_left q, List.getElem?_append_left q]
      · rw [List.getElem?_append_right (by omega), List.getElem?_append_right (by omega)]
        obtain ⟨d, hd⟩ : ∃ d, j - L.length = d + 1 := ⟨j - L.length - 1, by omega⟩
        rw [hd]
        rfl
  · show (L ++ o :: T).length = (L ++ o' :: T).length
    rw [List.length_append, List.length_append]
    rfl
/-- an object at L.length, what came behind it in T -/
def hm (L : List xa_C) (o : xa_C) (T : List xa_C) (s : Nat) : xa_H := hl (L ++ o :: T) s
theorem hm_2 : (hm L o T s).2.1 = L.length + 1 + T.length := by
  show (L ++ o :: T).length = _
  rw [List.length_append, List.length_cons]
  omega
theorem m_nC (h : L.length + T.length < 99999000) : nC (hm L o T s) cell k = some (hm L o (T ++ [cell]) (s + k)) := by
  unfold hm
  rw [hl_nC (by rw [List.length_append, List.length_cons]; omega), List.append_assoc, List.cons_append]
theorem m_xp {v : Value} (hc : ci ∈ cs) (hk : k < fs.length) : xp cs k (hm L (.inr (ci, fs)) T s) L.length v = some (hm L (.inr (ci, fs.set k v)) T s) := by
  rw [xp_in (show (hm L (.inr (ci, fs)) T s).1 L.length = some (.inr (ci, fs)) from mid_get) hc hk]
  exact congrArg some mid_set
theorem m_ck (hc : ci ∈ cs) : ck cs (hm L (.inr (ci, fs)) T s) L.length = some () := ck_in (show (hm L (.inr (ci, fs)) T s).1 L.length = some (.inr (ci, fs)) from mid_get) hc
theorem m_gR {r : Nat} (hc : ci ∈ cs) (hk : fs[k]? = some (.ref r)) : gR cs k (hm L (.inr (ci, fs)) T s) L.length = some r := by
  unfold gR
  rw [xg_in (show (hm L (.inr (ci, fs)) T s).1 L.length = some (.inr (ci, fs)) from mid_get) hc hk]
  rfl
theorem nA_n {l : Int32} {m : Nat} (hl : l = nI m) (hm : m ≤ 1000000) : ¬ (l < 0 ∨ 1000000 < l.toNatClampNeg) ∧ l.toNatClampNeg = m := by
  rw [hl, nI_clamp (by omega)]
  exact ⟨fun z => z.elim (nI_nneg (by omega)) (fun q => by omega), rfl⟩
theorem nAI_n {h : xa_H} {l : Int32} {m : Nat} (hl : l = nI m) (hm : m ≤ 1000000) : nAI h l = nC h (zA m) m := by
  obtain ⟨h1, h2⟩ := nA_n hl hm
  unfold nAI zA
  rw [if_neg h1, h2]
theorem nAB_n {h : xa_H} {l : Int32} {m : Nat} (hl : l = nI m) (hm : m ≤ 1000000) : nAB h l = nC h (.inl (1, m, .inl (fun _ => 0))) m := by
  obtain ⟨h1, h2⟩ := nA_n hl hm
  unfold nAB
  rw [if_neg h1, h2]
theorem nAZ_n {h : xa_H} {l : Int32} {m : Nat} (hl : l = nI m) (hm : m ≤ 1000000) : nAZ h l = nC h (.inl (2, m, .inl (fun _ => 0))) m := by
  obtain ⟨h1, h2⟩ := nA_n hl hm
  unfold nAZ
  rw [if_neg h1, h2]
theorem nAL_n {h : xa_H} {l : Int32} {m : Nat} (hl : l = nI m) (hm : m ≤ 1000000) : nAL h l = nC h (.inl (3, m, .inr (.inl (fun _ => 0)))) m := by
  obtain ⟨h1, h2⟩ := nA_n hl hm
  unfold nAL
  rw [if_neg h1, h2]
theorem nAR_n {h : xa_H} {l : Int32} {m : Nat} (hl : l = nI m) (hm : m ≤ 1000000) : nAR h l = nC h (.inl (4, m, .inr (.inr (.inr (.inr (fun _ => none)))))) m := by
  obtain ⟨h1, h2⟩ := nA_n hl hm
  unfold nAR
  rw [if_neg h1, h2]
/-- a field is put -/
theorem put_step {v : Value} {K : xa_H → Option β} (hc : ci ∈ cs) (hk : k < fs.length) : (xp cs k (hm L (.inr (ci, fs)) T s) L.length v).bind K = K (hm L (.inr (ci, fs.set k v)) T s) := by
  rw [m_xp hc hk, Option.bind_some]
/-- an array is made and put -/
theorem arr_step {n : Nat} {K : xa_H → Option β} (hc : ci ∈ cs) (hk : k < fs.length) (hb : L.length + T.length < 99999000) : ((nC (hm L (.inr (ci, fs)) T s) cell n).bind fun h1 => (xp cs k h1 L.length (.ref (hm L (.inr (ci, fs)) T s).2.1)).bind K) = K (hm L (.inr (ci, fs.set k (.ref (L.length + 1 + T.length)))) (T ++ [cell]) (s + n)) := by
  rw [m_nC hb, Option.bind_some, m_xp hc hk, Option.bind_some, hm_2]
/-- an object is made, its constructor run, and put -/
theorem sub_step {F : xa_H → Nat → Option xa_H} {C : Nat → List xa_C} {n z B : Nat} {K : xa_H → Option β} (hF : ∀ (L : List xa_C) (s : Nat), L.length < B → F (hl (L ++ [cell]) s) L.length = some (hl (L ++ C L.length) (s + z))) (hc : ci ∈ cs) (hk : k < fs.length) (hb : L.length + 1 + T.length < B) (hb2 : L.length + T.length < 99999000) : ((nC (hm L (.inr (ci, fs)) T s) cell n).bind fun h1 => (F h1 (hm L (.inr (ci, fs)) T s).2.1).bind fun q => (xp cs k q L.length (.ref (hm L (.inr (ci, fs)) T s).2.1)).bind K) = K (hm L (.inr (ci, fs.set k (.ref (L.length + 1 + T.length)))) (T ++ C (L.length + 1 + T.length)) (s + n + z)) := by
  rw [m_nC (by omega), Option.bind_some, hm_2]
  have e : hm L (.inr (ci, fs)) (T ++ [cell]) (s + n) = hl ((L ++ .inr (ci, fs) :: T) ++ [cell]) (s + n) := by
    unfold hm
    rw [List.append_assoc, List.cons_append]
  have el : (L ++ (.inr (ci, fs) : xa_C) :: T).length = L.length + 1 + T.length := by
    rw [List.length_append, List.length_cons]
    omega
  have h := hF (L ++ .inr (ci, fs) :: T) (s + n) (by rw [el]; omega)
  rw [el] at h
  rw [e, h, Option.bind_some]
  have e2 : hl ((L ++ .inr (ci, fs) :: T) ++ C (L.length + 1 + T.length)) (s + n + z) = hm L (.inr (ci, fs)) (T ++ C (L.length + 1 + T.length)) (s + n + z) := by
    unfold hm
    rw [List.append_assoc, List.cons_append]
  rw [e2, m_xp hc hk, Option.bind_some]
/-- int[n][k], put -/
theorem mul_step {n q : Nat} {a b : Int32} {K : xa_H → Option β} (ha : a = nI n) (hb' : b = nI q) (hn : n ≤ 1000) (hq : q ≤ 1000) (hc : ci ∈ cs) (hk : k < fs.length) (hb : L.length + T.length < 98999000) : ((nM (hm L (.inr (ci, fs)) T s) a b).bind fun h1 => (xp cs k h1 L.length (.ref (hm L (.inr (ci, fs)) T s).2.1)).bind K) = K (hm L (.inr (ci, fs.set k (.ref (L.length + 1 + T.length)))) (T ++ .inl (5, n, .inr (.inr (.inr (.inr (fun i => if i < n then some (L.length + 1 + T.length + 1 + 1 * i) else none))))) :: List.replicate n (zA q)) (s + n + n * q)) := by
  have e : nM (hm L (.inr (ci, fs)) T s) a b = some (hm L (.inr (ci, fs)) (T ++ .inl (5, n, .inr (.inr (.inr (.inr (fun i => if i < n then some (L.length + 1 + T.length + 1 + 1 * i) else none))))) :: List.replicate n (zA q)) (s + n + n * q)) := by
    unfold nM
    rw [ha, hb', nI_clamp (by omega), nI_clamp (by omega), if_neg (fun z => by
      rcases z with z | z | z | z | z
      · exact nI_nneg (by omega) z
      · exact nI_nneg (by omega) z
      · omega
      · omega
      · rw [hm_2] at z; omega)]
    unfold xm
    rw [hm_2]
    congr 1
    unfold hm hl
    refine Prod.ext (funext fun j => ?_) (Prod.ext ?_ rfl)
    · show (if j = L.length + 1 + T.length then some (.inl (5, n, .inr (.inr (.inr (.inr (fun i => if i < n then some (L.length + 1 + T.length + 1 + i) else none)))))) else if L.length + 1 + T.length < j ∧ j < L.length + 1 + T.length + 1 + n then some (.inl (0, q, .inl (fun _ => 0))) else (L ++ .inr (ci, fs) :: T)[j]?) = (L ++ .inr (ci, fs) :: (T ++ .inl (5, n, .inr (.inr (.inr (.inr (fun i => if i < n then some (L.length + 1 + T.length + 1 + 1 * i) else none))))) :: List.replicate n (zA q)))[j]?
      have el : (L ++ (.inr (ci, fs) : xa_C) :: T).length = L.length + 1 + T.length := by
        rw [List.length_append, List.length_cons]
        omega
      rw [show L ++ (.inr (ci, fs) : xa_C) :: (T ++ .inl (5, n, .inr (.inr (.inr (.inr (fun i => if i < n then some (L.length + 1 + T.length + 1 + 1 * i) else none))))) :: List.replicate n (zA q)) = (L ++ .inr (ci, fs) :: T) ++ .inl (5, n, .inr (.inr (.inr (.inr (fun i => if i < n then some (L.length + 1 + T.length + 1 + 1 * i) else none))))) :: List.replicate n (zA q) by rw [List.append_assoc, List.cons_append]]
      generalize L ++ (.inr (ci, fs) : xa_C) :: T = M at el
      by_cases e1 : j = L.length + 1 + T.length
      · rw [if_pos e1, e1, ← el, mid_get]
        simp only [Nat.one_mul]
      · rw [if_neg e1]
        by_cases e2 : j < L.length + 1 + T.length
        · rw [if_neg (by omega), List.getElem?_append_left (by omega)]
        · obtain ⟨d, hd⟩ : ∃ d, j = L.length + 1 + T.length + (d + 1) := ⟨j - (L.length + 1 + T.length) - 1, by omega⟩
          rw [hd, List.getElem?_append_right (by omega), el, show L.length + 1 + T.length + (d + 1) - (L.length + 1 + T.length) = d + 1 by omega, List.getElem?_cons_succ, List.getElem?_replicate]
          by_cases e3 : d < n
          · rw [if_pos (by omega), if_pos e3]
            rfl
          · rw [if_neg (by omega), if_neg e3, List.getElem?_eq_none (by omega)]
    · show L.length + 1 + T.length + 1 + n = (L ++ .inr (ci, fs) :: (T ++ .inl (5, n, .inr (.inr (.inr (.inr (fun i => if i < n then some (L.length + 1 + T.length + 1 + 1 * i) else none))))) :: List.replicate n (zA q))).length
      rw [List.length_append, List.length_cons, List.length_append, List.length_cons, List.length_replicate]
      omega
  rw [e, Option.bind_some, m_xp hc hk, Option.bind_some, hm_2]
end HLS
