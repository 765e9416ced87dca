/-! what the begins need: nothing -/
set_option maxRecDepth 200000 in
theorem o_beginX (σ : GS) (x : Int32) : xo_X0_begin σ x := by
  repeat (first
    | exact trivial
    | refine And.intro (fun h => absurd h (by decide)) (fun _ => ?_)
    | refine And.intro (fun _ => ?_) (fun h => absurd (by decide) h)
    | refine And.intro (by unfold vp_in; decide) ?_
    | refine And.intro (And.intro (by decide) (And.intro (by decide) (And.intro (by decide) trivial))) ?_)
set_option maxRecDepth 200000 in
theorem oM96 (σ : GS) (x : Int32) : xlo_X6_begin_96 100 σ x 0 := by
  repeat (first
    | exact trivial
    | refine And.intro (fun h => absurd h (by decide)) (fun _ => ?_)
    | refine And.intro (fun _ => ?_) (fun h => absurd (by decide) h)
    | refine And.intro (by unfold vp_in; decide) ?_
    | refine And.intro (And.intro (by decide) (And.intro (by decide) (And.intro (by decide) trivial))) ?_)
set_option maxRecDepth 200000 in
theorem o_beginM (σ : GS) (x : Int32) : xo_X6_begin σ x := by
  repeat (first
    | exact oM96 _ _
    | exact trivial
    | refine And.intro (fun h => absurd h (by decide)) (fun _ => ?_)
    | refine And.intro (fun _ => ?_) (fun h => absurd (by decide) h)
    | refine And.intro (by unfold vp_in; decide) ?_
    | refine And.intro (And.intro (by decide) (And.intro (by decide) (And.intro (by decide) trivial))) ?_)
set_option maxRecDepth 200000 in
theorem o_beginR (σ ρ : GS) : xo_X3_begin σ ρ := by
  repeat (first
    | exact trivial
    | refine And.intro (fun h => absurd h (by decide)) (fun _ => ?_)
    | refine And.intro (fun _ => ?_) (fun h => absurd (by decide) h)
    | refine And.intro (by unfold vp_in; decide) ?_
    | refine And.intro (And.intro (by decide) (And.intro (by decide) (And.intro (by decide) trivial))) ?_)
