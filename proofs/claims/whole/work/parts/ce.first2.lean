/-! the first state: what stands in it, and the relation -/
section FS2
set_option maxRecDepth 20000 in
theorem shL_len : shL.length = 379 := by decide +kernel
theorem mkL_len (S : XS) : ∀ (xs : List SH) (i : Nat), (mkL S i xs).length = xs.length
  | [], _ => rfl
  | x :: xs, i => by
    show (mkL S (i + 1) xs).length + 1 = xs.length + 1
    rw [mkL_len S xs (i + 1)]
theorem FL_hp (s : Nat) : hl FL s = hp S0 (379, s) := by
  rw [FL_eq]
  refine Prod.ext (funext fun a => ?_) (Prod.ext ?_ rfl)
  · show (mkL S0 0 shL)[a]? = (sh a).map (mkC S0 a)
    rw [mkL_get, Nat.zero_add]
    rfl
  · show (mkL S0 0 shL).length = 379
    rw [mkL_len, shL_len]
theorem z364 (k : Nat) : pj S0 364 k = 0 := rfl
theorem zly (i : Nat) : lyR (pj S0 360) (pj S0 358) (pj S0 356 0) 0 0 i = 0 := by
  unfold lyR
  by_cases h1 : i < 36
  · rw [if_pos h1]
    rfl
  · rw [if_neg h1]
    by_cases h2 : i < 42
    · rw [if_pos h2, if_neg (by omega)]
    · rw [if_neg h2]
      by_cases h3 : i = 48
      · rw [if_pos h3]
        rfl
      · rw [if_neg h3]
        by_cases h4 : i = 49
        · rw [if_pos h4]
          rfl
        · rw [if_neg h4]
theorem rOk_0 {row : Nat → Int32} (h : ∀ i, row i = 0) : rOk 0 (pj S0 356 1) row := by
  refine ⟨⟨fun a b _ _ => ?_, fun a b _ _ => ?_, fun k _ => ⟨0, by decide, h _⟩⟩, fun a b _ _ _ => h _, 0, by decide, h _⟩
  · show (row (6 * a + b)).toInt = -(row (6 * b + a)).toInt ∧ (row (6 * a + b)).toInt ≤ 99
    rw [h, h]
    decide
  · show (row (6 * a + b)).toInt ≤ (pj S0 356 1).toInt
    rw [h]
    decide
theorem sm00 : smal 0 := by
  unfold smal
  decide
theorem RR_0 : RR 0 (pj S0) := by
  refine ⟨⟨0, 0, ⟨Or.inl rfl, by decide, rfl, rfl, by decide, by decide, by decide, fun k hk => by omega, fun k hk => by omega⟩, ⟨⟨rfl, rfl, fun k hk => by omega⟩, ⟨fun k _ => rfl, fun k _ => rfl, fun k _ => rfl, rfl, rfl, rfl⟩, rOk_0 z364⟩, ⟨⟨rfl, rfl, fun k hk => by omega⟩, ⟨fun k _ => (zly k).symm, fun k _ => (zly _).symm, fun k _ => (zly _).symm, (zly _).symm, (zly _).symm, (zly _).symm⟩, rOk_0 zly⟩, ⟨0, 0, fun _ => 0, by decide, by decide, rfl, rfl, rfl, ⟨rfl, by decide, rfl, fun i hi => absurd (show i < min 0 60 from hi) (by omega)⟩, fun i hi => by omega⟩, Or.inl ⟨rfl, rfl⟩, 0, by decide, rfl, rfl, fun i hi => by omega⟩, ⟨0, by decide, rfl, rfl, fun k hk => by omega⟩, ⟨0, fun _ => 0, fun _ _ => 0, by decide, rfl, rfl, rfl, fun i hi => by omega⟩, ⟨0, fun _ => 0, by decide, rfl, rfl, rfl, rfl, Or.inl rfl, fun i hi => by omega⟩, rfl, ⟨2, by decide, rfl⟩, fun k _ => rfl, ⟨0, by decide, rfl, fun k _ => ⟨0, by decide, rfl⟩⟩, fun k _ => sm00, sm00, sm00, sm00, sm00, sm00, sm00⟩
end FS2
