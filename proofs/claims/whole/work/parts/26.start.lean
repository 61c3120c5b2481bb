/-! THE LAW'S START -/
def hp0 (q6 q10 : vw_C) : JH := jBk (jBk [.inr (11, jfs0 11)] 0 11 (swF 1) (swC 1 q6 q10) ++ [.inr (12, jfs0 12)]) 81 12 (mFs 82) (mCs muF)
theorem law_start {X : JX} {Q : JQ} (H : ∀ q6 q10 : vw_C, vwCl[6]? = some q6 → vwCl[10]? = some q10 → jB_L_law_18 X 10 Q (.float 0) (.ref 0) (.ref 81) 0 (hp0 q6 q10) 126 36841) : jev X (jex X 10) jm_L_law Q 0 (jent jm_L_law [.float 0]) [] [] 0 0 := by
  refine jT_L_law_0 (a0 := .float 0) ?_
  refine ⟨by decide, by decide, by decide, ?_⟩
  refine raw_rc (fs := jfs0 11) rfl ⟨by decide, by decide, ?_⟩
  refine n_SW (p := 0) rfl (fun q6 q10 h6 h10 => ?_)
  dsimp only [jrN]
  refine ⟨by decide, by decide, by decide, ?_⟩
  have e1 : List.length (jBk ([] ++ [.inr (11, jfs0 11)]) 0 11 (swF (List.length ([] ++ [(.inr (11, jfs0 11) : JC)]))) (swC (List.length ([] ++ [(.inr (11, jfs0 11) : JC)])) q6 q10)) = 81 := bk_len.trans rfl
  rw [e1]
  have e2 : (jBk ([] ++ [.inr (11, jfs0 11)]) 0 11 (swF (List.length ([] ++ [(.inr (11, jfs0 11) : JC)]))) (swC (List.length ([] ++ [(.inr (11, jfs0 11) : JC)])) q6 q10) ++ [.inr (12, jfs0 12)])[81]? = some (.inr (12, jfs0 12)) := by
    rw [← e1]; exact get_end
  refine raw_rc e2 ⟨by decide, by decide, ?_⟩
  refine n_Model e2 ?_
  dsimp only [jrN]
  have e3 : List.length (jBk ([] ++ [.inr (11, jfs0 11)]) 0 11 (swF (List.length ([] ++ [(.inr (11, jfs0 11) : JC)]))) (swC (List.length ([] ++ [(.inr (11, jfs0 11) : JC)])) q6 q10) ++ [(.inr (12, jfs0 12) : JC)]) = 82 := by rw [len_app, e1]
  rw [e3]
  exact H q6 q10 h6 h10
