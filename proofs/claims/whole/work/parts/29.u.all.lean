section STEP
variable {m : Nat} {σ τ : GS}
set_option maxRecDepth 10000 in
theorem step_all (h : RH m σ τ) (hm : m < 64) (hz : τ 0 27 = 0) : ∀ j, j < 25 → ∀ a b c : Int32, ¬ xr_X6_isRight (nI j) a b c = 0 → SG m τ (nI j) a b (xo_X0_perform σ (nI j) a b c) (famo τ (nI j) a b c) (xr_X0_perform σ (nI j) a b c) (fam τ (nI j) a b c) := by
  refine lt25 (P := fun j => ∀ a b c : Int32, ¬ xr_X6_isRight (nI j) a b c = 0 → SG m τ (nI j) a b (xo_X0_perform σ (nI j) a b c) (famo τ (nI j) a b c) (xr_X0_perform σ (nI j) a b c) (fam τ (nI j) a b c)) ?_ ?_ ?_ ?_ ?_ ?_ ?_ ?_ ?_ ?_ ?_ ?_ ?_ ?_ ?_ ?_ ?_ ?_ ?_ ?_ ?_ ?_ ?_ ?_ ?_
  · show ∀ a b c : Int32, ¬ xr_X6_isRight 0 a b c = 0 → SG m τ 0 a b (xo_X0_perform σ 0 a b c) (famo τ 0 a b c) (xr_X0_perform σ 0 a b c) (fam τ 0 a b c)
    intro a b c hv
    rw [right_0] at hv
    obtain ⟨f0, hv⟩ := ne_if hv
    obtain ⟨f1, hv⟩ := ne_if hv
    obtain ⟨f2, hv⟩ := ne_if hv
    obtain ⟨ja, ha, rfl⟩ := plU f0
    obtain ⟨jb, hb, rfl⟩ := inU (n := 4) (by decide) f1
    obtain ⟨jc, hc, rfl⟩ := rgU f2
    exact fam_r (by decide) (by decide) (by decide) ((sp_0 h hm hz ha hb hc).toSG (by decide) (by decide))
  · show ∀ a b c : Int32, ¬ xr_X6_isRight 1 a b c = 0 → SG m τ 1 a b (xo_X0_perform σ 1 a b c) (famo τ 1 a b c) (xr_X0_perform σ 1 a b c) (fam τ 1 a b c)
    intro a b c hv
    rw [right_1] at hv
    obtain ⟨ja, ha, rfl⟩ := plU hv
    exact fam_r (by decide) (by decide) (by decide) ((sp_1 h hm hz ha b c).toSG (by decide) (by decide))
  · show ∀ a b c : Int32, ¬ xr_X6_isRight 2 a b c = 0 → SG m τ 2 a b (xo_X0_perform σ 2 a b c) (famo τ 2 a b c) (xr_X0_perform σ 2 a b c) (fam τ 2 a b c)
    intro a b c hv
    rw [right_2] at hv
    obtain ⟨f0, hv⟩ := ne_if hv
    obtain ⟨f1, hv⟩ := ne_if hv
    obtain ⟨ja, ha, rfl⟩ := plU f0
    obtain ⟨jb, hb, rfl⟩ := plU f1
    exact fam_r (by decide) (by decide) (by decide) ((sp_2 h hm hz ha hb c).toSG (by decide) (by decide))
  · show ∀ a b c : Int32, ¬ xr_X6_isRight 3 a b c = 0 → SG m τ 3 a b (xo_X0_perform σ 3 a b c) (famo τ 3 a b c) (xr_X0_perform σ 3 a b c) (fam τ 3 a b c)
    intro a b c hv
    rw [right_3] at hv
    obtain ⟨f0, hv⟩ := ne_if hv
    obtain ⟨f1, hv⟩ := ne_if hv
    obtain ⟨f2, hv⟩ := ne_if hv
    obtain ⟨ja, ha, rfl⟩ := inU (n := 3) (by decide) f0
    obtain ⟨jb, hb, rfl⟩ := inU (n := 4) (by decide) f1
    obtain ⟨jc, hc, rfl⟩ := rgU f2
    exact fam_b (by decide) ((sp_3 h hm hz ha hb hc).toSG (by decide) (by decide))
  · show ∀ a b c : Int32, ¬ xr_X6_isRight 4 a b c = 0 → SG m τ 4 a b (xo_X0_perform σ 4 a b c) (famo τ 4 a b c) (xr_X0_perform σ 4 a b c) (fam τ 4 a b c)
    intro a b c hv
    rw [right_4] at hv
    obtain ⟨f0, hv⟩ := ne_if hv
    obtain ⟨f1, hv⟩ := ne_if hv
    obtain ⟨f2, hv⟩ := ne_if hv
    obtain ⟨ja, ha, rfl⟩ := inU (n := 3) (by decide) f0
    obtain ⟨jb, hb, rfl⟩ := rgU f1
    obtain ⟨jc, hc, rfl⟩ := plU f2
    exact fam_b (by decide) ((sp_4 h hm hz ha hb hc).toSG (by decide) (by decide))
  · show ∀ a b c : Int32, ¬ xr_X6_isRight 5 a b c = 0 → SG m τ 5 a b (xo_X0_perform σ 5 a b c) (famo τ 5 a b c) (xr_X0_perform σ 5 a b c) (fam τ 5 a b c)
    intro a b c hv
    rw [right_5] at hv
    obtain ⟨f0, hv⟩ := ne_if hv
    obtain ⟨f1, hv⟩ := ne_if hv
    obtain ⟨f2, hv⟩ := ne_if hv
    obtain ⟨ja, ha, rfl⟩ := plU f0
    obtain ⟨jb, hb, rfl⟩ := inU (n := 3) (by decide) f1
    obtain ⟨jc, hc, rfl⟩ := rgU f2
    exact fam_b (by decide) ((sp_5 h hm hz ha hb hc).toSG (by decide) (by decide))
  · show ∀ a b c : Int32, ¬ xr_X6_isRight 6 a b c = 0 → SG m τ 6 a b (xo_X0_perform σ 6 a b c) (famo τ 6 a b c) (xr_X0_perform σ 6 a b c) (fam τ 6 a b c)
    intro a b c hv
    rw [right_6] at hv
    obtain ⟨f0, hv⟩ := ne_if hv
    obtain ⟨f1, hv⟩ := ne_if hv
    obtain ⟨ja, ha, rfl⟩ := rgU f0
    obtain ⟨jb, hb, rfl⟩ := inU (n := 3) (by decide) f1
    exact fam_r (by decide) (by decide) (by decide) ((sp_6 h hm hz ha hb c).toSG (by decide) (by decide))
  · show ∀ a b c : Int32, ¬ xr_X6_isRight 7 a b c = 0 → SG m τ 7 a b (xo_X0_perform σ 7 a b c) (famo τ 7 a b c) (xr_X0_perform σ 7 a b c) (fam τ 7 a b c)
    intro a b c hv
    rw [right_7] at hv
    obtain ⟨ja, ha, rfl⟩ := inU (n := 3) (by decide) hv
    exact fam_r (by decide) (by decide) (by decide) ((sp_7 h hm hz ha b c).toSG (by decide) (by decide))
  · show ∀ a b c : Int32, ¬ xr_X6_isRight 8 a b c = 0 → SG m τ 8 a b (xo_X0_perform σ 8 a b c) (famo τ 8 a b c) (xr_X0_perform σ 8 a b c) (fam τ 8 a b c)
    intro a b c hv
    rw [right_8] at hv
    obtain ⟨f0, hv⟩ := ne_if hv
    obtain ⟨f1, hv⟩ := ne_if hv
    obtain ⟨ja, ha, rfl⟩ := rgU f0
    obtain ⟨jb, hb, rfl⟩ := plU f1
    exact fam_o (by decide) (by decide) ((sp_8 h hm hz ha hb c).toSG (by decide) (by decide))
  · show ∀ a b c : Int32, ¬ xr_X6_isRight 9 a b c = 0 → SG m τ 9 a b (xo_X0_perform σ 9 a b c) (famo τ 9 a b c) (xr_X0_perform σ 9 a b c) (fam τ 9 a b c)
    intro a b c hv
    rw [right_9] at hv
    obtain ⟨f0, hv⟩ := ne_if hv
    obtain ⟨f1, hv⟩ := ne_if hv
    obtain ⟨ja, ha, rfl⟩ := plU f0
    obtain ⟨jb, hb, rfl⟩ := rgU f1
    exact fam_o (by decide) (by decide) ((sp_9 h hm hz ha hb c).toSG (by decide) (by decide))
  · show ∀ a b c : Int32, ¬ xr_X6_isRight 10 a b c = 0 → SG m τ 10 a b (xo_X0_perform σ 10 a b c) (famo τ 10 a b c) (xr_X0_perform σ 10 a b c) (fam τ 10 a b c)
    intro a b c hv
    rw [right_10] at hv
    obtain ⟨f0, hv⟩ := ne_if hv
    obtain ⟨f1, hv⟩ := ne_if hv
    obtain ⟨ja, ha, rfl⟩ := rgU f0
    obtain ⟨jb, hb, rfl⟩ := plU f1
    exact fam_o (by decide) (by decide) ((sp_10 h hm hz ha hb c).toSG (by decide) (by decide))
  · show ∀ a b c : Int32, ¬ xr_X6_isRight 11 a b c = 0 → SG m τ 11 a b (xo_X0_perform σ 11 a b c) (famo τ 11 a b c) (xr_X0_perform σ 11 a b c) (fam τ 11 a b c)
    intro a b c hv
    rw [right_11] at hv
    obtain ⟨f0, hv⟩ := ne_if hv
    obtain ⟨f1, hv⟩ := ne_if hv
    obtain ⟨ja, ha, rfl⟩ := rgU f0
    obtain ⟨jb, hb, rfl⟩ := plU f1
    exact fam_o (by decide) (by decide) ((sp_11 h hm hz ha hb c).toSG (by decide) (by decide))
  · show ∀ a b c : Int32, ¬ xr_X6_isRight 12 a b c = 0 → SG m τ 12 a b (xo_X0_perform σ 12 a b c) (famo τ 12 a b c) (xr_X0_perform σ 12 a b c) (fam τ 12 a b c)
    intro a b c hv
    rw [right_12] at hv
    obtain ⟨f0, hv⟩ := ne_if hv
    obtain ⟨f1, hv⟩ := ne_if hv
    obtain ⟨ja, ha, rfl⟩ := plU f0
    obtain ⟨jb, hb, rfl⟩ := inU (n := 4) (by decide) f1
    exact fam_o (by decide) (by decide) ((sp_12 h hm hz ha hb c).toSG (by decide) (by decide))
  · show ∀ a b c : Int32, ¬ xr_X6_isRight 13 a b c = 0 → SG m τ 13 a b (xo_X0_perform σ 13 a b c) (famo τ 13 a b c) (xr_X0_perform σ 13 a b c) (fam τ 13 a b c)
    intro a b c hv
    rw [right_13] at hv
    obtain ⟨f0, hv⟩ := ne_if hv
    obtain ⟨f1, hv⟩ := ne_if hv
    obtain ⟨ja, ha, rfl⟩ := inU (n := 2) (by decide) f0
    obtain ⟨jb, hb, rfl⟩ := rgU f1
    exact fam_c (by decide) (by decide) (by decide) ((sp_13 h hm hz ha hb c).toSG (by decide) (by decide))
  · show ∀ a b c : Int32, ¬ xr_X6_isRight 14 a b c = 0 → SG m τ 14 a b (xo_X0_perform σ 14 a b c) (famo τ 14 a b c) (xr_X0_perform σ 14 a b c) (fam τ 14 a b c)
    intro a b c hv
    rw [right_14] at hv
    obtain ⟨f0, hv⟩ := ne_if hv
    obtain ⟨f1, hv⟩ := ne_if hv
    obtain ⟨ja, ha, rfl⟩ := inU (n := 2) (by decide) f0
    obtain ⟨jb, hb, rfl⟩ := rgU f1
    exact fam_c (by decide) (by decide) (by decide) ((sp_14 h hm hz ha hb c).toSG (by decide) (by decide))
  · show ∀ a b c : Int32, ¬ xr_X6_isRight 15 a b c = 0 → SG m τ 15 a b (xo_X0_perform σ 15 a b c) (famo τ 15 a b c) (xr_X0_perform σ 15 a b c) (fam τ 15 a b c)
    intro a b c hv
    rw [right_15] at hv
    obtain ⟨f0, hv⟩ := ne_if hv
    obtain ⟨f1, hv⟩ := ne_if hv
    obtain ⟨f2, hv⟩ := ne_if hv
    obtain ⟨ja, ha, rfl⟩ := rgU f0
    obtain ⟨jb, hb, rfl⟩ := inU (n := 2) (by decide) f1
    obtain ⟨jc, hc, rfl⟩ := rgU f2
    exact fam_c (by decide) (by decide) (by decide) ((sp_15 h hm hz ha hb hc).toSG (by decide) (by decide))
  · show ∀ a b c : Int32, ¬ xr_X6_isRight 16 a b c = 0 → SG m τ 16 a b (xo_X0_perform σ 16 a b c) (famo τ 16 a b c) (xr_X0_perform σ 16 a b c) (fam τ 16 a b c)
    intro a b c hv
    rw [right_16] at hv
    obtain ⟨f0, hv⟩ := ne_if hv
    obtain ⟨f1, hv⟩ := ne_if hv
    obtain ⟨f2, hv⟩ := ne_if hv
    obtain ⟨ja, ha, rfl⟩ := inU (n := 1) (by decide) f0
    obtain ⟨jb, hb, rfl⟩ := rgU f1
    obtain ⟨jc, hc, rfl⟩ := inU (n := 5) (by decide) f2
    exact fam_r (by decide) (by decide) (by decide) ((sp_16 h hm hz ha hb _).toSG (by decide) (by decide))
  · show ∀ a b c : Int32, ¬ xr_X6_isRight 17 a b c = 0 → SG m τ 17 a b (xo_X0_perform σ 17 a b c) (famo τ 17 a b c) (xr_X0_perform σ 17 a b c) (fam τ 17 a b c)
    intro a b c hv
    rw [right_17] at hv
    obtain ⟨f0, hv⟩ := ne_if hv
    obtain ⟨f1, hv⟩ := ne_if hv
    obtain ⟨ja, ha, rfl⟩ := rgU f0
    obtain ⟨jb, hb, rfl⟩ := inU (n := 1) (by decide) f1
    exact fam_r (by decide) (by decide) (by decide) ((sp_17 h hm hz ha hb c).toSG (by decide) (by decide))
  · show ∀ a b c : Int32, ¬ xr_X6_isRight 18 a b c = 0 → SG m τ 18 a b (xo_X0_perform σ 18 a b c) (famo τ 18 a b c) (xr_X0_perform σ 18 a b c) (fam τ 18 a b c)
    intro a b c hv
    rw [right_18] at hv
    obtain ⟨f0, hv⟩ := ne_if hv
    obtain ⟨f1, hv⟩ := ne_if hv
    obtain ⟨ja, ha, rfl⟩ := inU (n := 2) (by decide) f0
    obtain ⟨jb, hb, rfl⟩ := rgU f1
    exact fam_r (by decide) (by decide) (by decide) ((sp_18 h hm hz ha hb c).toSG (by decide) (by decide))
  · show ∀ a b c : Int32, ¬ xr_X6_isRight 19 a b c = 0 → SG m τ 19 a b (xo_X0_perform σ 19 a b c) (famo τ 19 a b c) (xr_X0_perform σ 19 a b c) (fam τ 19 a b c)
    intro a b c hv
    rw [right_19] at hv
    obtain ⟨ja, ha, rfl⟩ := inU (n := 2) (by decide) hv
    exact fam_r (by decide) (by decide) (by decide) ((sp_19 h hm hz ha b c).toSG (by decide) (by decide))
  · show ∀ a b c : Int32, ¬ xr_X6_isRight 20 a b c = 0 → SG m τ 20 a b (xo_X0_perform σ 20 a b c) (famo τ 20 a b c) (xr_X0_perform σ 20 a b c) (fam τ 20 a b c)
    intro a b c hv
    rw [right_20] at hv
    obtain ⟨ja, ha, rfl⟩ := inU (n := 2) (by decide) hv
    exact fam_r (by decide) (by decide) (by decide) (sg_20 h hm hz ha b c)
  · show ∀ a b c : Int32, ¬ xr_X6_isRight 21 a b c = 0 → SG m τ 21 a b (xo_X0_perform σ 21 a b c) (famo τ 21 a b c) (xr_X0_perform σ 21 a b c) (fam τ 21 a b c)
    intro a b c hv
    rw [right_21] at hv
    obtain ⟨ja, ha, rfl⟩ := rgU hv
    exact fam_r (by decide) (by decide) (by decide) ((sp_21 h hm hz ha b c).toSG (by decide) (by decide))
  · show ∀ a b c : Int32, ¬ xr_X6_isRight 22 a b c = 0 → SG m τ 22 a b (xo_X0_perform σ 22 a b c) (famo τ 22 a b c) (xr_X0_perform σ 22 a b c) (fam τ 22 a b c)
    intro a b c hv
    rw [right_22] at hv
    obtain ⟨f0, hv⟩ := ne_if hv
    obtain ⟨f1, hv⟩ := ne_if hv
    obtain ⟨ja, ha, rfl⟩ := rgU f0
    obtain ⟨jb, hb, rfl⟩ := rgU f1
    exact fam_r (by decide) (by decide) (by decide) ((sp_22 h hm hz ha hb c).toSG (by decide) (by decide))
  · show ∀ a b c : Int32, ¬ xr_X6_isRight 23 a b c = 0 → SG m τ 23 a b (xo_X0_perform σ 23 a b c) (famo τ 23 a b c) (xr_X0_perform σ 23 a b c) (fam τ 23 a b c)
    intro a b c hv
    rw [right_23] at hv
    obtain ⟨ja, ha, rfl⟩ := inU (n := 40) (by decide) hv
    exact fam_r (by decide) (by decide) (by decide) (sg_23 h hz ha b c)
  · show ∀ a b c : Int32, ¬ xr_X6_isRight 24 a b c = 0 → SG m τ 24 a b (xo_X0_perform σ 24 a b c) (famo τ 24 a b c) (xr_X0_perform σ 24 a b c) (fam τ 24 a b c)
    intro a b c hv
    rw [right_24] at hv
    obtain ⟨f0, hv⟩ := ne_if hv
    obtain ⟨f1, hv⟩ := ne_if hv
    obtain ⟨ja, ha, rfl⟩ := rgU f0
    obtain ⟨jb, hb, rfl⟩ := inU (n := 40) (by decide) f1
    exact fam_r (by decide) (by decide) (by decide) (sg_24 h hz ha hb c)
end STEP
