/-! SEARCHES: all rows of crossings, and those that do not go back at once -/
abbrev ND : Type := Nat × Nat × BS
def kd {α : Type} (g : Nat → List α) : Nat → List α
  | 0 => []
  | k + 1 => kd g k ++ g k
theorem kd_mem {α : Type} {g : Nat → List α} {x : α} : ∀ {k : Nat}, x ∈ kd g k ↔ ∃ h, h < k ∧ x ∈ g h
  | 0 => ⟨fun z => (by cases z), fun ⟨h, z, _⟩ => (by omega)⟩
  | k + 1 => by
    show x ∈ kd g k ++ g k ↔ _
    rw [List.mem_append, kd_mem (k := k)]
    constructor
    · rintro (⟨h, z, y⟩ | y)
      · exact ⟨h, by omega, y⟩
      · exact ⟨k, by omega, y⟩
    · rintro ⟨h, z, y⟩
      by_cases e : h = k
      · subst e
        exact Or.inr y
      · exact Or.inl ⟨h, by omega, y⟩
def kidOk (N : Nat) (kp lim : Int32) (sp : Bool) (last : Nat) (Q : BS) (h : Nat) : Bool := !(sp && decide (h = last)) && can N kp lim Q h
def dfs (N : Nat) (kp lim : Int32) (sp : Bool) : Nat → Nat → Nat → Nat → BS → List ND
  | 0, len, row, _, Q => [(len, row, Q)]
  | n + 1, len, row, last, Q => (len, row, Q) :: kd (fun h => if kidOk N kp lim sp last Q h = true then dfs N kp lim sp n (len + 1) (10 * row + h) h (crs N Q h) else []) N
def rowOf : Nat → List Nat → Nat
  | row, [] => row
  | row, h :: t => rowOf (10 * row + h) t
section DF
variable {N : Nat} {kp lim : Int32}
def vp (N : Nat) (kp lim : Int32) : BS → List Nat → Prop
  | _, [] => True
  | Q, h :: t => can N kp lim Q h = true ∧ vp N kp lim (crs N Q h) t
def finP (N : Nat) : BS → List Nat → BS
  | Q, [] => Q
  | Q, h :: t => finP N (crs N Q h) t
def nbk : Nat → List Nat → Prop
  | _, [] => True
  | last, h :: t => h ≠ last ∧ nbk h t
theorem dfs_mem {sp : Bool} {x : ND} : ∀ (n len row last : Nat) (Q : BS), x ∈ dfs N kp lim sp n len row last Q ↔ ∃ p, p.length ≤ n ∧ vp N kp lim Q p ∧ (sp = true → nbk last p) ∧ x = (len + p.length, rowOf row p, finP N Q p)
  | 0, len, row, last, Q => by
    show x ∈ [(len, row, Q)] ↔ _
    rw [List.mem_singleton]
    constructor
    · intro z
      exact ⟨[], Nat.le_refl _, trivial, fun _ => trivial, z⟩
    · rintro ⟨p, h1, -, -, h4⟩
      have : p = [] := List.length_eq_zero_iff.mp (by omega)
      subst this
      exact h4
  | n + 1, len, row, last, Q => by
    show x ∈ (len, row, Q) :: kd (fun h => if kidOk N kp lim sp last Q h = true then dfs N kp lim sp n (len + 1) (10 * row + h) h (crs N Q h) else []) N ↔ _
    rw [List.mem_cons, kd_mem]
    constructor
    · rintro (z | ⟨h, hN, hx⟩)
      · exact ⟨[], Nat.zero_le _, trivial, fun _ => trivial, z⟩
      · by_cases e : kidOk N kp lim sp last Q h = true
        · rw [if_pos e, dfs_mem n] at hx
          obtain ⟨p, p1, p2, p3, p4⟩ := hx
          unfold kidOk at e
          rw [Bool.and_eq_true, Bool.not_eq_true'] at e
          refine ⟨h :: p, by rw [List.length_cons]; omega, ⟨e.2, p2⟩, fun z => ⟨fun y => ?_, p3 z⟩, ?_⟩
          · rw [z, decide_eq_true y] at e
            exact absurd e.1 (by decide)
          · rw [p4, List.length_cons]
            show (len + 1 + p.length, _, _) = (len + (p.length + 1), _, _)
            rw [show len + 1 + p.length = len + (p.length + 1) by omega]
            rfl
        · rw [if_neg e] at hx
          cases hx
    · rintro ⟨p, p1, p2, p3, p4⟩
      cases p with
      | nil => exact Or.inl p4
      | cons h t =>
        right
        rw [List.length_cons] at p1 p4
        have e : kidOk N kp lim sp last Q h = true := by
          unfold kidOk
          rw [Bool.and_eq_true, Bool.not_eq_true']
          refine ⟨?_, p2.1⟩
          cases hs : sp with
          | false => rfl
          | true => rw [decide_eq_false (p3 hs).1]; rfl
        refine ⟨h, (can_x p2.1).1, ?_⟩
        rw [if_pos e, dfs_mem n]
        refine ⟨t, by omega, p2.2, fun z => (p3 z).2, ?_⟩
        rw [p4, show len + (t.length + 1) = len + 1 + t.length by omega]
        rfl
theorem dfs_range {sp : Bool} (h6 : N ≤ 6) : ∀ (n len row last : Nat) (Q : BS) (x : ND), x ∈ dfs N kp lim sp n len row last Q → len ≤ x.1 ∧ x.1 ≤ len + n ∧ row * 10 ^ (x.1 - len) ≤ x.2.1 ∧ x.2.1 < (row + 1) * 10 ^ (x.1 - len)
  | 0, len, row, last, Q, x, h => by
    rw [List.mem_singleton.mp h]
    show len ≤ len ∧ len ≤ len + 0 ∧ row * 10 ^ (len - len) ≤ row ∧ row < (row + 1) * 10 ^ (len - len)
    rw [Nat.sub_self, Nat.pow_zero]
    omega
  | n + 1, len, row, last, Q, x, h => by
    have h' : x ∈ (len, row, Q) :: kd (fun h => if kidOk N kp lim sp last Q h = true then dfs N kp lim sp n (len + 1) (10 * row + h) h (crs N Q h) else []) N := h
    rw [List.mem_cons, kd_mem] at h'
    rcases h' with z | ⟨k, hk, hx⟩
    · rw [z]
      show len ≤ len ∧ len ≤ len + (n + 1) ∧ row * 10 ^ (len - len) ≤ row ∧ row < (row + 1) * 10 ^ (len - len)
      rw [Nat.sub_self, Nat.pow_zero]
      omega
    · by_cases e : kidOk N kp lim sp last Q k = true
      · rw [if_pos e] at hx
        obtain ⟨a1, a2, a3, a4⟩ := dfs_range h6 n (len + 1) (10 * row + k) k (crs N Q k) x hx
        have ep : 10 ^ (x.1 - len) = 10 * 10 ^ (x.1 - (len + 1)) := by
          rw [show x.1 - len = (x.1 - (len + 1)) + 1 by omega, Nat.pow_succ, Nat.mul_comm]
        refine ⟨by omega, by omega, ?_, ?_⟩
        · rw [ep, ← Nat.mul_assoc]
          refine Nat.le_trans ?_ a3
          exact Nat.mul_le_mul_right _ (by omega)
        · rw [ep, ← Nat.mul_assoc]
          refine Nat.lt_of_lt_of_le a4 ?_
          exact Nat.mul_le_mul_right _ (by omega)
      · rw [if_neg e] at hx
        cases hx
def srt (x y : ND) : Prop := x.1 = y.1 → x.2.1 < y.2.1
theorem dfs_srt {sp : Bool} (h6 : N ≤ 6) : ∀ (n len row last : Nat) (Q : BS), List.Pairwise srt (dfs N kp lim sp n len row last Q)
  | 0, len, row, last, Q => List.pairwise_singleton _ _
  | n + 1, len, row, last, Q => by
    show List.Pairwise srt ((len, row, Q) :: kd (fun h => if kidOk N kp lim sp last Q h = true then dfs N kp lim sp n (len + 1) (10 * row + h) h (crs N Q h) else []) N)
    have rg : ∀ k x, x ∈ (if kidOk N kp lim sp last Q k = true then dfs N kp lim sp n (len + 1) (10 * row + k) k (crs N Q k) else []) → len + 1 ≤ x.1 ∧ (10 * row + k) * 10 ^ (x.1 - (len + 1)) ≤ x.2.1 ∧ x.2.1 < (10 * row + k + 1) * 10 ^ (x.1 - (len + 1)) := by
      intro k x hx
      by_cases e : kidOk N kp lim sp last Q k = true
      · rw [if_pos e] at hx
        obtain ⟨a1, a2, a3, a4⟩ := dfs_range h6 n (len + 1) (10 * row + k) k (crs N Q k) x hx
        exact ⟨a1, a3, a4⟩
      · rw [if_neg e] at hx
        cases hx
    rw [List.pairwise_cons]
    refine ⟨fun x hx hl => ?_, ?_⟩
    · rw [kd_mem] at hx
      obtain ⟨k, hk, hx⟩ := hx
      have := (rg k x hx).1
      have hl' : len = x.1 := hl
      omega
    · have : ∀ m, List.Pairwise srt (kd (fun h => if kidOk N kp lim sp last Q h = true then dfs N kp lim sp n (len + 1) (10 * row + h) h (crs N Q h) else []) m) := by
        intro m
        induction m with
        | zero => exact List.Pairwise.nil
        | succ m ih =>
          show List.Pairwise srt (kd _ m ++ _)
          rw [List.pairwise_append]
          refine ⟨ih, ?_, fun x hx y hy hl => ?_⟩
          · show List.Pairwise srt (if kidOk N kp lim sp last Q m = true then dfs N kp lim sp n (len + 1) (10 * row + m) m (crs N Q m) else [])
            by_cases e : kidOk N kp lim sp last Q m = true
            · rw [if_pos e]
              exact dfs_srt h6 n (len + 1) (10 * row + m) m (crs N Q m)
            · rw [if_neg e]
              exact List.Pairwise.nil
          · rw [kd_mem] at hx
            obtain ⟨k, hk, hx⟩ := hx
            have r1 := rg k x hx
            have r2 := rg m y hy
            rw [hl] at r1
            refine Nat.lt_of_lt_of_le r1.2.2 (Nat.le_trans ?_ r2.2.1)
            exact Nat.mul_le_mul_right _ (by omega)
      exact this N
theorem vp_congr (h6 : N ≤ 6) : ∀ (p : List Nat) (Q Q' : BS), eqB Q Q' → vp N kp lim Q p → vp N kp lim Q' p ∧ eqB (finP N Q p) (finP N Q' p)
  | [], Q, Q', h, _ => ⟨trivial, h⟩
  | k :: t, Q, Q', h, hv => by
    have hx : k < 6 := by have := (can_x hv.1).1; omega
    obtain ⟨a, b⟩ := vp_congr h6 t _ _ (crs_congr h6 hx h) hv.2
    exact ⟨⟨by rw [← can_congr h6 h]; exact hv.1, a⟩, b⟩
theorem nbk_weak {last : Nat} {p : List Nat} (h : nbk last p) (hp : ∀ k t, p = k :: t → k ≠ 6) : nbk 6 p := by
  cases p with
  | nil => trivial
  | cons k t => exact ⟨hp k t rfl, h.2⟩
theorem reduce (h6 : N ≤ 6) (hl : lim.toInt ≤ 99) : ∀ (p : List Nat) (Q : BS), Vb lim Q → vp N kp lim Q p → ∃ p', vp N kp lim Q p' ∧ nbk 6 p' ∧ eqB (finP N Q p') (finP N Q p) ∧ (p' = p ∨ p'.length + 2 ≤ p.length)
  | [], Q, V, hv => ⟨[], trivial, trivial, eqB.refl _, Or.inl rfl⟩
  | h :: t, Q, V, hv => by
    have hN := (can_x hv.1).1
    obtain ⟨t', a1, a2, a3, a4⟩ := reduce h6 hl t (crs N Q h) (Vb_crs V h6 hl hv.1) hv.2
    have lt' : t'.length ≤ t.length := by
      rcases a4 with z | z
      · rw [z]
        exact Nat.le_refl _
      · omega
    cases t' with
    | nil =>
      refine ⟨[h], ⟨hv.1, trivial⟩, ⟨by omega, trivial⟩, a3, ?_⟩
      rcases a4 with z | z
      · exact Or.inl (by rw [z])
      · exact Or.inr (by rw [List.length_cons, List.length_cons]; omega)
    | cons k s =>
      by_cases e : k = h
      · subst e
        have hb := crs_twice V h6 hl hv.1 a1.1
        obtain ⟨c1, c2⟩ := vp_congr h6 s _ _ hb a1.2
        refine ⟨s, c1, nbk_weak a2.2 (fun k' t' z => ?_), ?_, Or.inr ?_⟩
        · rw [z] at c1
          have := (can_x c1.1).1
          omega
        · exact c2.symm.trans a3
        · rw [List.length_cons] at lt' ⊢
          omega
      · refine ⟨h :: k :: s, ⟨hv.1, a1⟩, ⟨by omega, e, a2.2⟩, a3, ?_⟩
        rcases a4 with z | z
        · exact Or.inl (by rw [z])
        · exact Or.inr (by simp only [List.length_cons] at z ⊢; omega)
theorem dfs_sub {n len row last : Nat} {Q : BS} {x : ND} (h : x ∈ dfs N kp lim true n len row last Q) : x ∈ dfs N kp lim false n len row last Q := by
  rw [dfs_mem] at h ⊢
  obtain ⟨p, a1, a2, a3, a4⟩ := h
  exact ⟨p, a1, a2, fun z => (by cases z), a4⟩
theorem dfs_dom (h6 : N ≤ 6) (hl : lim.toInt ≤ 99) {n : Nat} {Q : BS} (V : Vb lim Q) {x : ND} (h : x ∈ dfs N kp lim false n 0 0 6 Q) : ∃ y, y ∈ dfs N kp lim true n 0 0 6 Q ∧ eqB y.2.2 x.2.2 ∧ (y.1 < x.1 ∨ (y.1 = x.1 ∧ y.2.1 = x.2.1)) := by
  rw [dfs_mem] at h
  obtain ⟨p, a1, a2, a3, a4⟩ := h
  obtain ⟨p', b1, b2, b3, b4⟩ := reduce h6 hl p Q V a2
  refine ⟨(0 + p'.length, rowOf 0 p', finP N Q p'), ?_, ?_, ?_⟩
  · rw [dfs_mem]
    refine ⟨p', ?_, b1, fun _ => b2, rfl⟩
    rcases b4 with z | z
    · rw [z]
      exact a1
    · omega
  · rw [a4]
    exact b3
  · rw [a4]
    rcases b4 with z | z
    · right
      rw [z]
      exact ⟨rfl, rfl⟩
    · left
      show 0 + p'.length < 0 + p.length
      omega
/-! the best of them -/
def kle (a b : Nat × Nat × Nat) : Prop := a.1 < b.1 ∨ (a.1 = b.1 ∧ (a.2.1 < b.2.1 ∨ (a.2.1 = b.2.1 ∧ a.2.2 ≤ b.2.2)))
theorem kle_refl (a : Nat × Nat × Nat) : kle a a := Or.inr ⟨rfl, Or.inr ⟨rfl, Nat.le_refl _⟩⟩
theorem kle_trans {a b c : Nat × Nat × Nat} (h1 : kle a b) (h2 : kle b c) : kle a c := by
  unfold kle at *
  omega
theorem kle_anti {a b : Nat × Nat × Nat} (h1 : kle a b) (h2 : kle b a) : a = b := by
  obtain ⟨a1, a2, a3⟩ := a
  obtain ⟨b1, b2, b3⟩ := b
  have h : a1 = b1 ∧ a2 = b2 ∧ a3 = b3 := by
    unfold kle at h1 h2
    dsimp only at h1 h2
    omega
  rw [h.1, h.2.1, h.2.2]
def keyN (val : BS → Nat) (x : ND) : Nat × Nat × Nat := (val x.2.2, x.1, x.2.1)
def stpB (val : BS → Nat) (k : Nat × Nat × Nat) (x : ND) : Nat × Nat × Nat := if val x.2.2 < k.1 ∨ (val x.2.2 = k.1 ∧ x.1 < k.2.1) then keyN val x else k
theorem bst_min {val : BS → Nat} : ∀ (L : List ND) (k0 : Nat × Nat × Nat), List.Pairwise srt L → (∀ y, y ∈ L → y.1 = k0.2.1 → k0.2.2 < y.2.1) → (L.foldl (stpB val) k0 = k0 ∨ ∃ x, x ∈ L ∧ L.foldl (stpB val) k0 = keyN val x) ∧ kle (L.foldl (stpB val) k0) k0 ∧ ∀ y, y ∈ L → kle (L.foldl (stpB val) k0) (keyN val y)
  | [], k0, _, _ => ⟨Or.inl rfl, kle_refl _, fun y hy => by cases hy⟩
  | x :: L, k0, hp, hk => by
    rw [List.pairwise_cons] at hp
    rw [List.foldl_cons]
    by_cases e : val x.2.2 < k0.1 ∨ (val x.2.2 = k0.1 ∧ x.1 < k0.2.1)
    · have es : stpB val k0 x = keyN val x := if_pos e
      rw [es]
      obtain ⟨a1, a2, a3⟩ := bst_min L (keyN val x) hp.2 (fun y hy hl => hp.1 y hy hl.symm)
      have hx : kle (keyN val x) k0 := by
        unfold kle keyN
        dsimp only
        omega
      refine ⟨Or.inr ?_, kle_trans a2 hx, fun y hy => ?_⟩
      · rcases a1 with z | ⟨y, y1, y2⟩
        · exact ⟨x, List.mem_cons_self, z⟩
        · exact ⟨y, List.mem_cons_of_mem _ y1, y2⟩
      · rcases List.mem_cons.mp hy with z | z
        · rw [z]
          exact a2
        · exact a3 y z
    · have es : stpB val k0 x = k0 := if_neg e
      rw [es]
      obtain ⟨a1, a2, a3⟩ := bst_min L k0 hp.2 (fun y hy hl => hk y (List.mem_cons_of_mem _ hy) hl)
      have hx : kle k0 (keyN val x) := by
        have := hk x List.mem_cons_self
        unfold kle keyN
        dsimp only
        omega
      refine ⟨?_, a2, fun y hy => ?_⟩
      · rcases a1 with z | ⟨y, y1, y2⟩
        · exact Or.inl z
        · exact Or.inr ⟨y, List.mem_cons_of_mem _ y1, y2⟩
      · rcases List.mem_cons.mp hy with z | z
        · rw [z]
          exact kle_trans a2 hx
        · exact a3 y z
/-- the best of a search: its first node is the start -/
def bstF (val : BS → Nat) (L : List ND) (Q : BS) : Nat × Nat × Nat := L.foldl (stpB val) (val Q, 0, 0)
theorem bst_dfs (h6 : N ≤ 6) {val : BS → Nat} {sp : Bool} {n : Nat} {Q : BS} : (∃ x, x ∈ dfs N kp lim sp n 0 0 6 Q ∧ (dfs N kp lim sp n 0 0 6 Q).foldl (stpB val) (val Q, 0, 0) = keyN val x) ∧ ∀ y, y ∈ dfs N kp lim sp n 0 0 6 Q → kle ((dfs N kp lim sp n 0 0 6 Q).foldl (stpB val) (val Q, 0, 0)) (keyN val y) := by
  have hs := dfs_srt (kp := kp) (lim := lim) (sp := sp) h6 n 0 0 6 Q
  have hc : ∃ L, dfs N kp lim sp n 0 0 6 Q = (0, 0, Q) :: L := by
    cases n with
    | zero => exact ⟨[], rfl⟩
    | succ n => exact ⟨_, rfl⟩
  obtain ⟨L, hL⟩ := hc
  rw [hL] at hs ⊢
  rw [List.pairwise_cons] at hs
  have e0 : stpB val (val Q, 0, 0) (0, 0, Q) = (val Q, 0, 0) := by
    refine if_neg (fun z => ?_)
    dsimp only at z
    omega
  rw [List.foldl_cons, e0]
  obtain ⟨a1, a2, a3⟩ := bst_min (val := val) L (val Q, 0, 0) hs.2 (fun y hy hl => hs.1 y hy hl.symm)
  refine ⟨?_, fun y hy => ?_⟩
  · rcases a1 with z | ⟨y, y1, y2⟩
    · exact ⟨(0, 0, Q), List.mem_cons_self, z⟩
    · exact ⟨y, List.mem_cons_of_mem _ y1, y2⟩
  · rcases List.mem_cons.mp hy with z | z
    · rw [z]
      exact a2
    · exact a3 y z
theorem bst_same (h6 : N ≤ 6) (hl : lim.toInt ≤ 99) {val : BS → Nat} (hval : ∀ Q Q', eqB Q Q' → val Q = val Q') {n : Nat} {Q : BS} (V : Vb lim Q) : (dfs N kp lim true n 0 0 6 Q).foldl (stpB val) (val Q, 0, 0) = (dfs N kp lim false n 0 0 6 Q).foldl (stpB val) (val Q, 0, 0) := by
  obtain ⟨⟨x, x1, x2⟩, x3⟩ := bst_dfs (kp := kp) (lim := lim) (sp := true) (n := n) (Q := Q) (val := val) h6
  obtain ⟨⟨y, y1, y2⟩, y3⟩ := bst_dfs (kp := kp) (lim := lim) (sp := false) (n := n) (Q := Q) (val := val) h6
  refine kle_anti ?_ ?_
  · obtain ⟨z, z1, z2, z3⟩ := dfs_dom h6 hl V y1
    refine kle_trans (x3 z z1) ?_
    rw [y2]
    have := hval _ _ z2
    unfold kle keyN
    dsimp only
    omega
  · rw [x2]
    exact y3 x (dfs_sub x1)
/-! how many unlike tables -/
def tbl (Q : BS) : List Int32 := (List.range 36).map Q.1
theorem tbl_eq {Q Q' : BS} : tbl Q = tbl Q' ↔ ∀ k, k < 36 → Q.1 k = Q'.1 k := by
  unfold tbl
  rw [List.map_inj_left]
  constructor
  · intro h k hk
    exact h k (List.mem_range.mpr hk)
  · intro h k hk
    exact h k (List.mem_range.mp hk)
def addT (acc : List (List Int32)) (x : ND) : List (List Int32) := if tbl x.2.2 ∈ acc then acc else acc ++ [tbl x.2.2]
theorem addT_all : ∀ (L : List ND) (acc : List (List Int32)), acc.Nodup → (L.foldl addT acc).Nodup ∧ (∀ t, t ∈ L.foldl addT acc ↔ t ∈ acc ∨ ∃ x, x ∈ L ∧ t = tbl x.2.2) ∧ (L.foldl addT acc).length ≤ acc.length + L.length
  | [], acc, h => ⟨h, fun t => ⟨Or.inl, fun z => z.elim id (fun ⟨x, hx, _⟩ => by cases hx)⟩, Nat.le_refl _⟩
  | x :: L, acc, h => by
    rw [List.foldl_cons]
    by_cases e : tbl x.2.2 ∈ acc
    · have es : addT acc x = acc := if_pos e
      rw [es]
      obtain ⟨a1, a2, a3⟩ := addT_all L acc h
      refine ⟨a1, fun t => ?_, by rw [List.length_cons]; omega⟩
      rw [a2]
      constructor
      · rintro (z | ⟨y, y1, y2⟩)
        · exact Or.inl z
        · exact Or.inr ⟨y, List.mem_cons_of_mem _ y1, y2⟩
      · rintro (z | ⟨y, y1, y2⟩)
        · exact Or.inl z
        · rcases List.mem_cons.mp y1 with q | q
          · left
            rw [y2, q]
            exact e
          · exact Or.inr ⟨y, q, y2⟩
    · have es : addT acc x = acc ++ [tbl x.2.2] := if_neg e
      rw [es]
      have hn : (acc ++ [tbl x.2.2]).Nodup := by
        rw [List.nodup_append]
        refine ⟨h, List.pairwise_singleton _ _, fun a ha b hb => ?_⟩
        rw [List.mem_singleton] at hb
        rw [hb]
        exact fun z => e (z ▸ ha)
      obtain ⟨a1, a2, a3⟩ := addT_all L _ hn
      refine ⟨a1, fun t => ?_, by rw [List.length_append, List.length_singleton] at a3; rw [List.length_cons]; omega⟩
      rw [a2, List.mem_append, List.mem_singleton]
      constructor
      · rintro ((z | z) | ⟨y, y1, y2⟩)
        · exact Or.inl z
        · exact Or.inr ⟨x, List.mem_cons_self, z⟩
        · exact Or.inr ⟨y, List.mem_cons_of_mem _ y1, y2⟩
      · rintro (z | ⟨y, y1, y2⟩)
        · exact Or.inl (Or.inl z)
        · rcases List.mem_cons.mp y1 with q | q
          · left
            right
            rw [y2, q]
          · exact Or.inr ⟨y, q, y2⟩
theorem cnt_same (h6 : N ≤ 6) (hl : lim.toInt ≤ 99) {n : Nat} {Q : BS} (V : Vb lim Q) : ((dfs N kp lim true n 0 0 6 Q).foldl addT []).length = ((dfs N kp lim false n 0 0 6 Q).foldl addT []).length := by
  obtain ⟨a1, a2, -⟩ := addT_all (dfs N kp lim true n 0 0 6 Q) [] List.nodup_nil
  obtain ⟨b1, b2, -⟩ := addT_all (dfs N kp lim false n 0 0 6 Q) [] List.nodup_nil
  refine Nat.le_antisymm (List.Nodup.length_le_of_subset a1 fun t ht => ?_) (List.Nodup.length_le_of_subset b1 fun t ht => ?_)
  · rw [a2] at ht
    rw [b2]
    rcases ht with z | ⟨x, x1, x2⟩
    · cases z
    · exact Or.inr ⟨x, dfs_sub x1, x2⟩
  · rw [b2] at ht
    rw [a2]
    rcases ht with z | ⟨x, x1, x2⟩
    · cases z
    · obtain ⟨y, y1, y2, -⟩ := dfs_dom h6 hl V x1
      exact Or.inr ⟨y, y1, by rw [x2]; exact (tbl_eq.mpr y2.1).symm⟩
theorem kd_len {α : Type} {g : Nat → List α} {b : Nat} (h : ∀ k, (g k).length ≤ b) : ∀ n, (kd g n).length ≤ n * b
  | 0 => by
    exact Nat.zero_le _
  | n + 1 => by
    have := kd_len h n
    have := h n
    show (kd g n ++ g n).length ≤ _
    rw [List.length_append, Nat.add_mul]
    omega
def szW : Nat → Nat
  | 0 => 1
  | n + 1 => 1 + 6 * szW n
theorem dfs_len {sp : Bool} (h6 : N ≤ 6) : ∀ (n len row last : Nat) (Q : BS), (dfs N kp lim sp n len row last Q).length ≤ szW n
  | 0, len, row, last, Q => Nat.le_refl _
  | n + 1, len, row, last, Q => by
    show ((len, row, Q) :: kd _ N).length ≤ 1 + 6 * szW n
    rw [List.length_cons]
    have : (kd (fun h => if kidOk N kp lim sp last Q h = true then dfs N kp lim sp n (len + 1) (10 * row + h) h (crs N Q h) else []) N).length ≤ N * szW n := kd_len (fun k => by
      by_cases e : kidOk N kp lim sp last Q k = true
      · rw [if_pos e]
        exact dfs_len h6 n _ _ _ _
      · rw [if_neg e]
        exact Nat.zero_le _) N
    have h2 : N * szW n ≤ 6 * szW n := Nat.mul_le_mul_right _ h6
    omega
end DF
