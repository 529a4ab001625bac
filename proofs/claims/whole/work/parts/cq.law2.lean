/-! the law's locals, what a case goes on with -/
theorem nw_L_8 : xa_NW RL 8 11 [.null, .null, .null, .null, .null, .null, .null, .null, .null, .null, .null, .null, .null, .null, .null, .null, .int 0, .int 0, .int 0] := ⟨RX11, TX11, 19, tyX11, rfl, uw_11, tyX11_ok, gws_at 132 (by decide +kernel) rfl, gws_of (by decide +kernel) rfl, gws_of (by decide +kernel) rfl, rfl, xa_dflt (fun _ => rfl) (by decide +kernel)⟩
theorem nw_L_16 : xa_NW RL 16 12 [.int 0, .null, .null, .null, .null, .null, .int 0, .int 0, .int 0, .int 0, .int 0, .int 0, .int 0, .int 0, .int 0, .null, .null, .int 0, .null, .null, .null, .null, .null, .null, .null, .null, .int 0, .int 0, .int 0, .int 0, .int 0, .int 0, .null, .null, .null, .int 0, .int 0, .null, .null, .null, .int 0, .long 0, .null, .null, .null, .int 0, .int 0, .int 0, .int 0, .int 0, .null, .int 0, .null, .null, .null, .null, .int 0] := ⟨RX12, TX12, 57, tyX12, rfl, uw_12, tyX12_ok, gws_at 1288 (by decide +kernel) rfl, gws_of (by decide +kernel) rfl, gws_of (by decide +kernel) rfl, rfl, xa_dflt (fun _ => rfl) (by decide +kernel)⟩
theorem ar_L : Cond.arrayClass .long ∈ gws := gws_of (by decide +kernel) rfl
theorem cl_L_89 : Cond.constantLong RL 89 4294967295 ∈ gws := gws_at 1963 (by decide +kernel) rfl
def lwl (n : Nat) : List (Option Value) := [some (.ref 1000000006), some (.ref 0), some (.ref 351), some (.ref 378), some (.int (nI (6 * n))), none, none]
def LWK (G : xa_G) (b L : Nat) (xs : Nat → Int32) (n : Nat) (c : Nat × Nat) : Prop := ∀ S2 : XS, RR (n + 1) (pj S2) → xa_L G M_L_law (lwP G b L xs) room_1 c.1 c.2 1602 (lwl n) [] (hp S2 c) (lwZ b)
/-- x != 0 as a boolean -/
theorem l_nz {G : xa_G} {M : xa_M} {P0 : State → Code → Prop} {R : Room} {cn sl pc : Nat} {loc : List (Option Value)} {st : List Value} {h : xa_H} {Z : State → List Frame → Array Value → State → Prop} {x : Int32} (d0 : decode M.2.1 pc = .ok (.ifCond .eq 7, 3)) (d3 : decode M.2.1 (pc + 3) = .ok (.iconst 1, 1)) (d4 : decode M.2.1 (pc + 4) = .ok (.goto 4, 3)) (d7 : decode M.2.1 (pc + 7) = .ok (.iconst 0, 1)) (k : xa_L G M P0 R cn sl (pc + 8) loc (.int (bI (!decide (x = 0))) :: st) h Z) : xa_L G M P0 R cn sl pc loc (.int x :: st) h Z := by
  refine l_if_eq d0 (tgt := pc + 7) (by omega) (fun q => ?_) (fun q => ?_)
  · rw [decide_eq_true q] at k
    exact l_iconst d7 (v := 0) (by decide) k
  · rw [decide_eq_false q] at k
    refine l_iconst d3 (v := 1) (by decide) ?_
    exact l_goto d4 (tgt := pc + 8) (by omega) k
