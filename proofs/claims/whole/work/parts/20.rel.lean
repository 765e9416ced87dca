def Rel (σ ρ τ : GS) : Prop := sorry
abbrev rs (ox om : Prop) (x : Int32 × GS × GS) (y : Int32 × GS) : Prop := ox ∧ om ∧ x.1 = y.1 ∧ Rel x.2.1 x.2.2 y.2
theorem rel_init : Rel σH1 ρ0 τ1 := sorry
theorem rel_act {σ ρ τ : GS} (h : Rel σ ρ τ) (a b c d : Int32) : rs (xo_X5_act σ ρ a b c d) (xo_X6_act τ a b c d) (xr_X5_act σ ρ a b c d) (xr_X6_act τ a b c d) := sorry
theorem rel_guard {σ ρ τ : GS} (h : Rel σ ρ τ) (a b c d : Int32) : rs (xo_X5_guard σ ρ a b c d) (xo_X6_guard τ a b c d) (xr_X5_guard σ ρ a b c d) (xr_X6_guard τ a b c d) := sorry
theorem rel_clear {σ ρ τ : GS} (h : Rel σ ρ τ) : rs (xo_X5_clear σ ρ) (xo_X6_clear τ) (xr_X5_clear σ ρ) (xr_X6_clear τ) := sorry
theorem rel_run {σ ρ τ : GS} (h : Rel σ ρ τ) (a b : Int32) : rs (xo_X5_run σ ρ a b) (xo_X6_run τ a b) (xr_X5_run σ ρ a b) (xr_X6_run τ a b) := sorry
theorem rel_told {σ ρ τ : GS} (h : Rel σ ρ τ) (a : Int32) : rs (xo_X5_told σ ρ a) (xo_X6_told τ a) (xr_X5_told σ ρ a) (xr_X6_told τ a) := sorry
theorem rel_caught {σ ρ τ : GS} (h : Rel σ ρ τ) (a : Int32) : rs (xo_X5_caught σ ρ a) (xo_X6_caught τ a) (xr_X5_caught σ ρ a) (xr_X6_caught τ a) := sorry
theorem rel_register {σ ρ τ : GS} (h : Rel σ ρ τ) (a : Int32) : rs (xo_X5_register σ ρ a) (xo_X6_register τ a) (xr_X5_register σ ρ a) (xr_X6_register τ a) := sorry
theorem rel_item {σ ρ τ : GS} (h : Rel σ ρ τ) (a b : Int32) : rs (xo_X5_item σ ρ a b) (xo_X6_item τ a b) (xr_X5_item σ ρ a b) (xr_X6_item τ a b) := sorry
theorem rel_row {σ ρ τ : GS} (h : Rel σ ρ τ) (a b : Int32) : rs (xo_X5_row σ ρ a b) (xo_X6_row τ a b) (xr_X5_row σ ρ a b) (xr_X6_row τ a b) := sorry
theorem rel_onBelt {σ ρ τ : GS} (h : Rel σ ρ τ) (a b : Int32) : rs (xo_X5_onBelt σ ρ a b) (xo_X6_onBelt τ a b) (xr_X5_onBelt σ ρ a b) (xr_X6_onBelt τ a b) := sorry
theorem rel_counted {σ ρ τ : GS} (h : Rel σ ρ τ) (a b : Int32) : rs (xo_X5_counted σ ρ a b) (xo_X6_counted τ a b) (xr_X5_counted σ ρ a b) (xr_X6_counted τ a b) := sorry
