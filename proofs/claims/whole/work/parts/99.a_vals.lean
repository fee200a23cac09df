/-! what calls answer, and that readers keep the state -/
theorem vl_letters {σ : SG} {a0 : Int32} {a1 : Int32} : ∃ v, (oLetters σ a0 a1).1 = .int v := by
  unfold oLetters
  (repeat' split) <;> first | exact ⟨_, rfl⟩ | exact oPut_int
theorem vl_clause {σ : SG} {a0 : Int32} {a1 : Int32} {a2 : Int32} {a3 : Int32} {a4 : Int32} : ∃ v, (oClause σ a0 a1 a2 a3 a4).1 = .int v := by
  unfold oClause
  (repeat' split) <;> first | exact ⟨_, rfl⟩ | exact oPut_int
theorem vl_more {σ : SG} {a0 : Int32} {a1 : Int32} : ∃ v, (oMore σ a0 a1).1 = .int v := by
  unfold oMore
  (repeat' split) <;> first | exact ⟨_, rfl⟩ | exact oPut_int
theorem vl_drop {σ : SG} {a0 : Int32} : ∃ v, (oDrop σ a0).1 = .int v := by
  unfold oDrop
  (repeat' split) <;> first | exact ⟨_, rfl⟩ | exact oPut_int
theorem vl_ask {σ : SG} {a0 : Int32} {a1 : Int32} {a2 : Bool} : ∃ v, (oAsk σ a0 a1 a2).1 = .int v := by
  unfold oAsk
  (repeat' split) <;> first | exact ⟨_, rfl⟩ | exact oPut_int
theorem vl_fix {σ : SG} {a0 : Int32} {a1 : Int32} : ∃ v, (oFix σ a0 a1).1 = .int v := by
  unfold oFix
  (repeat' split) <;> first | exact ⟨_, rfl⟩ | exact oPut_int
theorem vl_loose {σ : SG} {a0 : Int32} {a1 : Int32} : ∃ v, (oLoose σ a0 a1).1 = .int v := by
  unfold oLoose
  (repeat' split) <;> first | exact ⟨_, rfl⟩ | exact oPut_int
theorem vl_weight {σ : SG} {a0 : Int32} {a1 : Int32} {a2 : Int32} : ∃ v, (oWeight σ a0 a1 a2).1 = .int v := by
  unfold oWeight
  (repeat' split) <;> first | exact ⟨_, rfl⟩ | exact oPut_int
theorem vl_count {σ : SG} {a0 : Int32} {a1 : Int32} : ∃ v, (oCount σ a0 a1).1 = .int v := by
  unfold oCount
  (repeat' split) <;> first | exact ⟨_, rfl⟩ | exact oPut_int
theorem vl_compile {σ : SG} {a0 : Int32} : ∃ v, (oCompile σ a0).1 = .int v := by
  unfold oCompile
  (repeat' split) <;> first | exact ⟨_, rfl⟩ | exact oPut_int
theorem vl_root {σ : SG} {a0 : Int32} : ∃ v, (oRoot σ a0).1 = .int v := by
  unfold oRoot
  (repeat' split) <;> first | exact ⟨_, rfl⟩ | exact oPut_int
theorem vl_node {σ : SG} {a0 : Int32} {a1 : Int32} {a2 : Int32} : ∃ v, (oNode σ a0 a1 a2).1 = .int v := by
  unfold oNode
  (repeat' split) <;> first | exact ⟨_, rfl⟩ | exact oPut_int
theorem vl_part {σ : SG} {a0 : Int32} {a1 : Int32} {a2 : Int32} : ∃ v, (oPart σ a0 a1 a2).1 = .int v := by
  unfold oPart
  (repeat' split) <;> first | exact ⟨_, rfl⟩ | exact oPut_int
theorem vl_bend {σ : SG} {a0 : Int32} {a1 : Int32} {a2 : Int32} {a3 : Int32} : ∃ v, (oBend σ a0 a1 a2 a3).1 = .int v := by
  unfold oBend
  (repeat' split) <;> first | exact ⟨_, rfl⟩ | exact oPut_int
theorem vl_judge {σ : SG} {a0 : Int32} : ∃ v, (oJudge σ a0).1 = .int v := by
  unfold oJudge
  (repeat' split) <;> first | exact ⟨_, rfl⟩ | exact oPut_int
theorem vl_rows {σ : SG} {a0 : Int32} : ∃ v, (oRows σ a0).1 = .int v := by
  unfold oRows
  (repeat' split) <;> first | exact ⟨_, rfl⟩ | exact oPut_int
theorem vl_says {σ : SG} {a0 : Int32} {a1 : Int32} : ∃ v, (oSays σ a0 a1).1 = .int v := by
  unfold oSays
  (repeat' split) <;> first | exact ⟨_, rfl⟩ | exact oPut_int
theorem vl_sum {σ : SG} {a0 : Int32} : ∃ v, (oSum σ a0).1 = .long v := by
  unfold oSum
  (repeat' split) <;> first | exact ⟨_, rfl⟩ | exact oPut_int
theorem vl_chance {σ : SG} {a0 : Int32} {a1 : Int32} {a2 : Bool} : ∃ v, (oChance σ a0 a1 a2).1 = .long v := by
  unfold oChance
  (repeat' split) <;> first | exact ⟨_, rfl⟩ | exact oPut_int
theorem vl_sure {σ : SG} {a0 : Int32} {a1 : Int32} : ∃ v, (oSure σ a0 a1).1 = .int v := by
  unfold oSure
  (repeat' split) <;> first | exact ⟨_, rfl⟩ | exact oPut_int
theorem vl_kth {σ : SG} {a0 : Int32} {a1 : Int32} : ∃ v, (oKth σ a0 a1).1 = .int v := by
  unfold oKth
  (repeat' split) <;> first | exact ⟨_, rfl⟩ | exact oPut_int
theorem vl_rank {σ : SG} {a0 : Int32} {a1 : Int32} : ∃ v, (oRank σ a0 a1).1 = .int v := by
  unfold oRank
  (repeat' split) <;> first | exact ⟨_, rfl⟩ | exact oPut_int
theorem vl_next {σ : SG} {a0 : Int32} {a1 : Int32} : ∃ v, (oNext σ a0 a1).1 = .int v := by
  unfold oNext
  (repeat' split) <;> first | exact ⟨_, rfl⟩ | exact oPut_int
theorem vl_most {σ : SG} {a0 : Int32} {a1 : Bool} : ∃ v, (oMost σ a0 a1).1 = .int v := by
  unfold oMost
  (repeat' split) <;> first | exact ⟨_, rfl⟩ | exact oPut_int
theorem vl_weigh {σ : SG} {a0 : Int32} {a1 : Int32} : ∃ v, (oWeigh σ a0 a1).1 = .long v := by
  unfold oWeigh
  (repeat' split) <;> first | exact ⟨_, rfl⟩ | exact oPut_int
theorem vl_asked {σ : SG} {a0 : Int32} : ∃ v, (oAsked σ a0).1 = .int v := by
  unfold oAsked
  (repeat' split) <;> first | exact ⟨_, rfl⟩ | exact oPut_int
theorem vl_less {σ : SG} {a0 : Bool} : ∃ v, (oLess σ a0).1 = .int v := by
  unfold oLess
  (repeat' split) <;> first | exact ⟨_, rfl⟩ | exact oPut_int
theorem vl_join {σ : SG} : ∃ v, (oJoin σ ).1 = .int v := by
  unfold oJoin
  (repeat' split) <;> first | exact ⟨_, rfl⟩ | exact oPut_int
theorem vl_lay {σ : SG} {a0 : Int32} {a1 : Int32} : ∃ v, (oLay σ a0 a1).1 = .int v := by
  unfold oLay
  (repeat' split) <;> first | exact ⟨_, rfl⟩ | exact oPut_int
theorem vl_tear {σ : SG} : ∃ v, (oTear σ ).1 = .int v := by
  unfold oTear
  (repeat' split) <;> first | exact ⟨_, rfl⟩ | exact oPut_int
theorem vl_row {σ : SG} {a0 : Int32} : ∃ v, (oRow σ a0).1 = .int v := by
  unfold oRow
  (repeat' split) <;> first | exact ⟨_, rfl⟩ | exact oPut_int
theorem vl_copy {σ : SG} {a0 : Int32} {a1 : Int32} {a2 : Int32} : ∃ v, (oCopy σ a0 a1 a2).1 = .int v := by
  unfold oCopy
  (repeat' split) <;> first | exact ⟨_, rfl⟩ | exact oPut_int
theorem vl_give {σ : SG} {a0 : Int32} : ∃ v, (oGive σ a0).1 = .int v := by
  unfold oGive
  (repeat' split) <;> first | exact ⟨_, rfl⟩ | exact oPut_int
theorem vl_status {σ : SG} {a0 : Int32} : ∃ v, (oStatus σ a0).1 = .int v := by
  unfold oStatus
  (repeat' split) <;> first | exact ⟨_, rfl⟩ | exact oPut_int
theorem sk_count {σ : SG} {a0 : Int32} {a1 : Int32} (hs : sgOK σ) : sgOK (oCount σ a0 a1).2 := by
  unfold oCount
  (repeat' split) <;> exact hs
theorem sk_root {σ : SG} {a0 : Int32} (hs : sgOK σ) : sgOK (oRoot σ a0).2 := by
  unfold oRoot
  (repeat' split) <;> exact hs
theorem sk_node {σ : SG} {a0 : Int32} {a1 : Int32} {a2 : Int32} (hs : sgOK σ) : sgOK (oNode σ a0 a1 a2).2 := by
  unfold oNode
  (repeat' split) <;> exact hs
theorem sk_part {σ : SG} {a0 : Int32} {a1 : Int32} {a2 : Int32} (hs : sgOK σ) : sgOK (oPart σ a0 a1 a2).2 := by
  unfold oPart
  (repeat' split) <;> exact hs
theorem sk_rows {σ : SG} {a0 : Int32} (hs : sgOK σ) : sgOK (oRows σ a0).2 := by
  unfold oRows
  (repeat' split) <;> exact hs
theorem sk_says {σ : SG} {a0 : Int32} {a1 : Int32} (hs : sgOK σ) : sgOK (oSays σ a0 a1).2 := by
  unfold oSays
  (repeat' split) <;> exact hs
theorem sk_sum {σ : SG} {a0 : Int32} (hs : sgOK σ) : sgOK (oSum σ a0).2 := by
  unfold oSum
  (repeat' split) <;> exact hs
theorem sk_chance {σ : SG} {a0 : Int32} {a1 : Int32} {a2 : Bool} (hs : sgOK σ) : sgOK (oChance σ a0 a1 a2).2 := by
  unfold oChance
  (repeat' split) <;> exact hs
theorem sk_sure {σ : SG} {a0 : Int32} {a1 : Int32} (hs : sgOK σ) : sgOK (oSure σ a0 a1).2 := by
  unfold oSure
  (repeat' split) <;> exact hs
theorem sk_kth {σ : SG} {a0 : Int32} {a1 : Int32} (hs : sgOK σ) : sgOK (oKth σ a0 a1).2 := by
  unfold oKth
  (repeat' split) <;> exact hs
theorem sk_rank {σ : SG} {a0 : Int32} {a1 : Int32} (hs : sgOK σ) : sgOK (oRank σ a0 a1).2 := by
  unfold oRank
  (repeat' split) <;> exact hs
theorem sk_next {σ : SG} {a0 : Int32} {a1 : Int32} (hs : sgOK σ) : sgOK (oNext σ a0 a1).2 := by
  unfold oNext
  (repeat' split) <;> exact hs
theorem sk_most {σ : SG} {a0 : Int32} {a1 : Bool} (hs : sgOK σ) : sgOK (oMost σ a0 a1).2 := by
  unfold oMost
  (repeat' split) <;> exact hs
theorem sk_weigh {σ : SG} {a0 : Int32} {a1 : Int32} (hs : sgOK σ) : sgOK (oWeigh σ a0 a1).2 := by
  unfold oWeigh
  (repeat' split) <;> exact hs
theorem sk_asked {σ : SG} {a0 : Int32} (hs : sgOK σ) : sgOK (oAsked σ a0).2 := by
  unfold oAsked
  (repeat' split) <;> exact hs
theorem sk_less {σ : SG} {a0 : Bool} (hs : sgOK σ) : sgOK (oLess σ a0).2 := by
  unfold oLess
  (repeat' split) <;> exact hs
theorem sk_row {σ : SG} {a0 : Int32} (hs : sgOK σ) : sgOK (oRow σ a0).2 := by
  unfold oRow
  (repeat' split) <;> exact hs
theorem sk_status {σ : SG} {a0 : Int32} (hs : sgOK σ) : sgOK (oStatus σ a0).2 := by
  unfold oStatus
  (repeat' split) <;> exact hs
