/-! ===== ExactForms: the constructor (printed by wip/gen/rI8.py) ===== -/
/-- what stands at the keys but the registers and the two arrays of the object -/
def XPRE (M : mheap) (ad : Nat → Nat) : Prop := M (ad 6265) = some (.inl nM, [.int (nI 1), .int (nI 1), .ref (ad (2 * (2865 + 256))), .ref (ad 6274)]) ∧ M (ad 6274) = some (.inr 3, (List.range 256).map (fun i => Value.ref (ad (2 * (2865 + i))))) ∧ M (ad 6247) = some (.inl nK, [.ref (ad 6276), .ref (ad 6275), .ref (ad 14), .ref (ad 16), .ref (ad 18), .ref (ad 20), .ref (ad 22), .ref (ad 24)]) ∧ M (ad 6276) = some (.inl nD, [.ref (ad 0), .ref (ad 2), .ref (ad 6277), .ref (ad 6278)]) ∧ M (ad 6277) = some (.inr 0, (List.replicate 253 (0 : Int32)).map .int) ∧ M (ad 6278) = some (.inr 0, (List.replicate 253 (0 : Int32)).map .int) ∧ M (ad 6275) = some (.inl nU, [.ref (ad 4), .ref (ad 6), .ref (ad 8), .ref (ad 10), .ref (ad 12), .ref (ad 6276), .int (nI 0), .long 0, .long 0, .long 0, .long 0]) ∧ M (ad 6248) = some (.inl nE, [.ref (ad 6249), .ref (ad 6250), .ref (ad 6251), .ref (ad 66), .int (nI 0), .int (nI 0), .int (nI 0), .int (nI 0), .ref (ad 6252), .ref (ad 68), .ref (ad 6247)]) ∧ M (ad 6249) = some (.inr 3, (List.range 16).map (fun i => Value.ref (ad (2 * (17 + i))))) ∧ M (ad 6250) = some (.inr 0, (List.replicate 16 (0 : Int32)).map .int) ∧ M (ad 6251) = some (.inr 2, (List.replicate 32 (0 : Int32)).map .int) ∧ M (ad 6252) = some (.inr 3, (List.range 512).map (fun i => Value.ref (ad (2 * (35 + i))))) ∧ M (ad 6253) = some (.inl nS, [.int (nI 0), .int (nI 0), .int (nI 16), .int (nI 1), .ref (ad 6254), .ref (ad 1094), .ref (ad 1096), .ref (ad 1098), .ref (ad 1100), .ref (ad 1102), .ref (ad 1104), .ref (ad 6247)]) ∧ M (ad 6254) = some (.inr 3, (List.range 256).map (fun i => Value.ref (ad (2 * (553 + i))))) ∧ M (ad 6255) = some (.inl nF, [.ref (ad (2 * 13)), .ref (ad (2 * (13 + 1))), .ref (ad 6247)]) ∧ M (ad 6256) = some (.inl nF, [.ref (ad (2 * 15)), .ref (ad (2 * (15 + 1))), .ref (ad 6247)])
theorem XPRE.step {M M' : mheap} {ad ad' : Nat → Nat} (h : XPRE M ad) (hag : ∀ k, (k < 1618 ∨ (5730 ≤ k ∧ k < 6244) ∨ (6247 ≤ k ∧ k < 6257) ∨ k = 6265 ∨ (6274 ≤ k ∧ k < 6279)) → ad' k = ad k) (hM : ∀ k, (6247 ≤ k ∧ k < 6257) ∨ k = 6265 ∨ (6274 ≤ k ∧ k < 6279) → M' (ad k) = M (ad k)) : XPRE M' ad' := by
  obtain ⟨h6265, h6274, h6247, h6276, h6277, h6278, h6275, h6248, h6249, h6250, h6251, h6252, h6253, h6254, h6255, h6256⟩ := h
  refine ⟨?_, ?_, ?_, ?_, ?_, ?_, ?_, ?_, ?_, ?_, ?_, ?_, ?_, ?_, ?_, ?_⟩
  · rw [hag 6265 (by omega), hM 6265 (by omega), h6265, hag (2 * (2865 + 256)) (by omega), hag 6274 (by omega)]
  · rw [hag 6274 (by omega), hM 6274 (by omega), h6274]
    refine congrArg some (congrArg (Prod.mk _) (List.map_congr_left (fun l hl => ?_)))
    have hl2 := List.mem_range.mp hl
    rw [hag (2 * (2865 + l)) (by omega)]
  · rw [hag 6247 (by omega), hM 6247 (by omega), h6247, hag 6276 (by omega), hag 6275 (by omega), hag 14 (by omega), hag 16 (by omega), hag 18 (by omega), hag 20 (by omega), hag 22 (by omega), hag 24 (by omega)]
  · rw [hag 6276 (by omega), hM 6276 (by omega), h6276, hag 0 (by omega), hag 2 (by omega), hag 6277 (by omega), hag 6278 (by omega)]
  · rw [hag 6277 (by omega), hM 6277 (by omega), h6277]
  · rw [hag 6278 (by omega), hM 6278 (by omega), h6278]
  · rw [hag 6275 (by omega), hM 6275 (by omega), h6275, hag 4 (by omega), hag 6 (by omega), hag 8 (by omega), hag 10 (by omega), hag 12 (by omega), hag 6276 (by omega)]
  · rw [hag 6248 (by omega), hM 6248 (by omega), h6248, hag 6249 (by omega), hag 6250 (by omega), hag 6251 (by omega), hag 66 (by omega), hag 6252 (by omega), hag 68 (by omega), hag 6247 (by omega)]
  · rw [hag 6249 (by omega), hM 6249 (by omega), h6249]
    refine congrArg some (congrArg (Prod.mk _) (List.map_congr_left (fun l hl => ?_)))
    have hl2 := List.mem_range.mp hl
    rw [hag (2 * (17 + l)) (by omega)]
  · rw [hag 6250 (by omega), hM 6250 (by omega), h6250]
  · rw [hag 6251 (by omega), hM 6251 (by omega), h6251]
  · rw [hag 6252 (by omega), hM 6252 (by omega), h6252]
    refine congrArg some (congrArg (Prod.mk _) (List.map_congr_left (fun l hl => ?_)))
    have hl2 := List.mem_range.mp hl
    rw [hag (2 * (35 + l)) (by omega)]
  · rw [hag 6253 (by omega), hM 6253 (by omega), h6253, hag 6254 (by omega), hag 1094 (by omega), hag 1096 (by omega), hag 1098 (by omega), hag 1100 (by omega), hag 1102 (by omega), hag 1104 (by omega), hag 6247 (by omega)]
  · rw [hag 6254 (by omega), hM 6254 (by omega), h6254]
    refine congrArg some (congrArg (Prod.mk _) (List.map_congr_left (fun l hl => ?_)))
    have hl2 := List.mem_range.mp hl
    rw [hag (2 * (553 + l)) (by omega)]
  · rw [hag 6255 (by omega), hM 6255 (by omega), h6255, hag (2 * 13) (by omega), hag (2 * (13 + 1)) (by omega), hag 6247 (by omega)]
  · rw [hag 6256 (by omega), hM 6256 (by omega), h6256, hag (2 * 15) (by omega), hag (2 * (15 + 1)) (by omega), hag 6247 (by omega)]
def XS0 (M0 M : mheap) (ob : Nat) (ad : Nat → Nat) : Prop := INI M ad (fun k => k = 6244) ∧ ad 6244 = ob ∧ M ob = some (.inl nX, [.null, .null, .null, .null, .null, .null, .null, .null, .int (nI (0))]) ∧ (∀ x, x ≠ ob → M0 x ≠ none → M x = M0 x)
def XS1 (M0 M : mheap) (ob : Nat) (ad : Nat → Nat) : Prop := INI M ad (fun k => k = 6244 ∨ k = 6245) ∧ ad 6244 = ob ∧ M ob = some (.inl nX, [.ref (ad 6245), .null, .null, .null, .null, .null, .null, .null, .int (nI (0))]) ∧ (∀ x, x ≠ ob → M0 x ≠ none → M x = M0 x) ∧ M (ad 6245) = some (.inr 4, List.replicate 8 .null) ∧ M0 (ad 6245) = none
def XS2 (M0 M : mheap) (ob : Nat) (ad : Nat → Nat) : Prop := INI M ad (fun k => k = 6244 ∨ k = 6245 ∨ k = 6246) ∧ ad 6244 = ob ∧ M ob = some (.inl nX, [.ref (ad 6245), .ref (ad 6246), .null, .null, .null, .null, .null, .null, .int (nI (0))]) ∧ (∀ x, x ≠ ob → M0 x ≠ none → M x = M0 x) ∧ M (ad 6245) = some (.inr 4, List.replicate 8 .null) ∧ M (ad 6246) = some (.inr 0, (List.replicate 16 (0 : Int32)).map .int) ∧ M0 (ad 6245) = none ∧ M0 (ad 6246) = none
def XS3 (M0 M : mheap) (ob : Nat) (ad : Nat → Nat) : Prop := INI M ad (fun k => k = 6244 ∨ k = 6245 ∨ k = 6246 ∨ k = 6265 ∨ k = 6274 ∨ (5730 ≤ k ∧ k < 6244)) ∧ ad 6244 = ob ∧ M ob = some (.inl nX, [.ref (ad 6245), .ref (ad 6246), .ref (ad 6265), .null, .null, .null, .null, .null, .int (nI (0))]) ∧ (∀ x, x ≠ ob → M0 x ≠ none → M x = M0 x) ∧ M (ad 6245) = some (.inr 4, List.replicate 8 .null) ∧ M (ad 6246) = some (.inr 0, (List.replicate 16 (0 : Int32)).map .int) ∧ M (ad 6265) = some (.inl nM, [.int (nI 1), .int (nI 1), .ref (ad (2 * (2865 + 256))), .ref (ad 6274)]) ∧ M (ad 6274) = some (.inr 3, (List.range 256).map (fun i => Value.ref (ad (2 * (2865 + i))))) ∧ M0 (ad 6245) = none ∧ M0 (ad 6246) = none
def XS4 (M0 M : mheap) (ob : Nat) (ad : Nat → Nat) : Prop := INI M ad (fun k => k = 6244 ∨ k = 6245 ∨ k = 6246 ∨ k = 6265 ∨ k = 6274 ∨ (5730 ≤ k ∧ k < 6244) ∨ k = 6247 ∨ k < 26 ∨ (6275 ≤ k ∧ k < 6279)) ∧ ad 6244 = ob ∧ M ob = some (.inl nX, [.ref (ad 6245), .ref (ad 6246), .ref (ad 6265), .ref (ad 6247), .null, .null, .null, .null, .int (nI (0))]) ∧ (∀ x, x ≠ ob → M0 x ≠ none → M x = M0 x) ∧ M (ad 6245) = some (.inr 4, List.replicate 8 .null) ∧ M (ad 6246) = some (.inr 0, (List.replicate 16 (0 : Int32)).map .int) ∧ M (ad 6265) = some (.inl nM, [.int (nI 1), .int (nI 1), .ref (ad (2 * (2865 + 256))), .ref (ad 6274)]) ∧ M (ad 6274) = some (.inr 3, (List.range 256).map (fun i => Value.ref (ad (2 * (2865 + i))))) ∧ M (ad 6247) = some (.inl nK, [.ref (ad 6276), .ref (ad 6275), .ref (ad 14), .ref (ad 16), .ref (ad 18), .ref (ad 20), .ref (ad 22), .ref (ad 24)]) ∧ M (ad 6276) = some (.inl nD, [.ref (ad 0), .ref (ad 2), .ref (ad 6277), .ref (ad 6278)]) ∧ M (ad 6277) = some (.inr 0, (List.replicate 253 (0 : Int32)).map .int) ∧ M (ad 6278) = some (.inr 0, (List.replicate 253 (0 : Int32)).map .int) ∧ M (ad 6275) = some (.inl nU, [.ref (ad 4), .ref (ad 6), .ref (ad 8), .ref (ad 10), .ref (ad 12), .ref (ad 6276), .int (nI 0), .long 0, .long 0, .long 0, .long 0]) ∧ M0 (ad 6245) = none ∧ M0 (ad 6246) = none
def XS5 (M0 M : mheap) (ob : Nat) (ad : Nat → Nat) : Prop := INI M ad (fun k => k = 6244 ∨ k = 6245 ∨ k = 6246 ∨ k = 6265 ∨ k = 6274 ∨ (5730 ≤ k ∧ k < 6244) ∨ k = 6247 ∨ k < 26 ∨ (6275 ≤ k ∧ k < 6279) ∨ k = 6248 ∨ (34 ≤ k ∧ k < 1094) ∨ (6249 ≤ k ∧ k < 6253)) ∧ ad 6244 = ob ∧ M ob = some (.inl nX, [.ref (ad 6245), .ref (ad 6246), .ref (ad 6265), .ref (ad 6247), .ref (ad 6248), .null, .null, .null, .int (nI (0))]) ∧ (∀ x, x ≠ ob → M0 x ≠ none → M x = M0 x) ∧ M (ad 6245) = some (.inr 4, List.replicate 8 .null) ∧ M (ad 6246) = some (.inr 0, (List.replicate 16 (0 : Int32)).map .int) ∧ M (ad 6265) = some (.inl nM, [.int (nI 1), .int (nI 1), .ref (ad (2 * (2865 + 256))), .ref (ad 6274)]) ∧ M (ad 6274) = some (.inr 3, (List.range 256).map (fun i => Value.ref (ad (2 * (2865 + i))))) ∧ M (ad 6247) = some (.inl nK, [.ref (ad 6276), .ref (ad 6275), .ref (ad 14), .ref (ad 16), .ref (ad 18), .ref (ad 20), .ref (ad 22), .ref (ad 24)]) ∧ M (ad 6276) = some (.inl nD, [.ref (ad 0), .ref (ad 2), .ref (ad 6277), .ref (ad 6278)]) ∧ M (ad 6277) = some (.inr 0, (List.replicate 253 (0 : Int32)).map .int) ∧ M (ad 6278) = some (.inr 0, (List.replicate 253 (0 : Int32)).map .int) ∧ M (ad 6275) = some (.inl nU, [.ref (ad 4), .ref (ad 6), .ref (ad 8), .ref (ad 10), .ref (ad 12), .ref (ad 6276), .int (nI 0), .long 0, .long 0, .long 0, .long 0]) ∧ M (ad 6248) = some (.inl nE, [.ref (ad 6249), .ref (ad 6250), .ref (ad 6251), .ref (ad 66), .int (nI 0), .int (nI 0), .int (nI 0), .int (nI 0), .ref (ad 6252), .ref (ad 68), .ref (ad 6247)]) ∧ M (ad 6249) = some (.inr 3, (List.range 16).map (fun i => Value.ref (ad (2 * (17 + i))))) ∧ M (ad 6250) = some (.inr 0, (List.replicate 16 (0 : Int32)).map .int) ∧ M (ad 6251) = some (.inr 2, (List.replicate 32 (0 : Int32)).map .int) ∧ M (ad 6252) = some (.inr 3, (List.range 512).map (fun i => Value.ref (ad (2 * (35 + i))))) ∧ M0 (ad 6245) = none ∧ M0 (ad 6246) = none
def XS6 (M0 M : mheap) (ob : Nat) (ad : Nat → Nat) : Prop := INI M ad (fun k => k = 6244 ∨ k = 6245 ∨ k = 6246 ∨ k = 6265 ∨ k = 6274 ∨ (5730 ≤ k ∧ k < 6244) ∨ k = 6247 ∨ k < 26 ∨ (6275 ≤ k ∧ k < 6279) ∨ k = 6248 ∨ (34 ≤ k ∧ k < 1094) ∨ (6249 ≤ k ∧ k < 6253) ∨ k = 6253 ∨ (1094 ≤ k ∧ k < 1618) ∨ k = 6254) ∧ ad 6244 = ob ∧ M ob = some (.inl nX, [.ref (ad 6245), .ref (ad 6246), .ref (ad 6265), .ref (ad 6247), .ref (ad 6248), .ref (ad 6253), .null, .null, .int (nI (0))]) ∧ (∀ x, x ≠ ob → M0 x ≠ none → M x = M0 x) ∧ M (ad 6245) = some (.inr 4, List.replicate 8 .null) ∧ M (ad 6246) = some (.inr 0, (List.replicate 16 (0 : Int32)).map .int) ∧ M (ad 6265) = some (.inl nM, [.int (nI 1), .int (nI 1), .ref (ad (2 * (2865 + 256))), .ref (ad 6274)]) ∧ M (ad 6274) = some (.inr 3, (List.range 256).map (fun i => Value.ref (ad (2 * (2865 + i))))) ∧ M (ad 6247) = some (.inl nK, [.ref (ad 6276), .ref (ad 6275), .ref (ad 14), .ref (ad 16), .ref (ad 18), .ref (ad 20), .ref (ad 22), .ref (ad 24)]) ∧ M (ad 6276) = some (.inl nD, [.ref (ad 0), .ref (ad 2), .ref (ad 6277), .ref (ad 6278)]) ∧ M (ad 6277) = some (.inr 0, (List.replicate 253 (0 : Int32)).map .int) ∧ M (ad 6278) = some (.inr 0, (List.replicate 253 (0 : Int32)).map .int) ∧ M (ad 6275) = some (.inl nU, [.ref (ad 4), .ref (ad 6), .ref (ad 8), .ref (ad 10), .ref (ad 12), .ref (ad 6276), .int (nI 0), .long 0, .long 0, .long 0, .long 0]) ∧ M (ad 6248) = some (.inl nE, [.ref (ad 6249), .ref (ad 6250), .ref (ad 6251), .ref (ad 66), .int (nI 0), .int (nI 0), .int (nI 0), .int (nI 0), .ref (ad 6252), .ref (ad 68), .ref (ad 6247)]) ∧ M (ad 6249) = some (.inr 3, (List.range 16).map (fun i => Value.ref (ad (2 * (17 + i))))) ∧ M (ad 6250) = some (.inr 0, (List.replicate 16 (0 : Int32)).map .int) ∧ M (ad 6251) = some (.inr 2, (List.replicate 32 (0 : Int32)).map .int) ∧ M (ad 6252) = some (.inr 3, (List.range 512).map (fun i => Value.ref (ad (2 * (35 + i))))) ∧ M (ad 6253) = some (.inl nS, [.int (nI 0), .int (nI 0), .int (nI 16), .int (nI 1), .ref (ad 6254), .ref (ad 1094), .ref (ad 1096), .ref (ad 1098), .ref (ad 1100), .ref (ad 1102), .ref (ad 1104), .ref (ad 6247)]) ∧ M (ad 6254) = some (.inr 3, (List.range 256).map (fun i => Value.ref (ad (2 * (553 + i))))) ∧ M0 (ad 6245) = none ∧ M0 (ad 6246) = none
def XS7 (M0 M : mheap) (ob : Nat) (ad : Nat → Nat) : Prop := INI M ad (fun k => k = 6244 ∨ k = 6245 ∨ k = 6246 ∨ k = 6265 ∨ k = 6274 ∨ (5730 ≤ k ∧ k < 6244) ∨ k = 6247 ∨ k < 26 ∨ (6275 ≤ k ∧ k < 6279) ∨ k = 6248 ∨ (34 ≤ k ∧ k < 1094) ∨ (6249 ≤ k ∧ k < 6253) ∨ k = 6253 ∨ (1094 ≤ k ∧ k < 1618) ∨ k = 6254 ∨ k = 6255 ∨ (26 ≤ k ∧ k < 30)) ∧ ad 6244 = ob ∧ M ob = some (.inl nX, [.ref (ad 6245), .ref (ad 6246), .ref (ad 6265), .ref (ad 6247), .ref (ad 6248), .ref (ad 6253), .ref (ad 6255), .null, .int (nI (0))]) ∧ (∀ x, x ≠ ob → M0 x ≠ none → M x = M0 x) ∧ M (ad 6245) = some (.inr 4, List.replicate 8 .null) ∧ M (ad 6246) = some (.inr 0, (List.replicate 16 (0 : Int32)).map .int) ∧ M (ad 6265) = some (.inl nM, [.int (nI 1), .int (nI 1), .ref (ad (2 * (2865 + 256))), .ref (ad 6274)]) ∧ M (ad 6274) = some (.inr 3, (List.range 256).map (fun i => Value.ref (ad (2 * (2865 + i))))) ∧ M (ad 6247) = some (.inl nK, [.ref (ad 6276), .ref (ad 6275), .ref (ad 14), .ref (ad 16), .ref (ad 18), .ref (ad 20), .ref (ad 22), .ref (ad 24)]) ∧ M (ad 6276) = some (.inl nD, [.ref (ad 0), .ref (ad 2), .ref (ad 6277), .ref (ad 6278)]) ∧ M (ad 6277) = some (.inr 0, (List.replicate 253 (0 : Int32)).map .int) ∧ M (ad 6278) = some (.inr 0, (List.replicate 253 (0 : Int32)).map .int) ∧ M (ad 6275) = some (.inl nU, [.ref (ad 4), .ref (ad 6), .ref (ad 8), .ref (ad 10), .ref (ad 12), .ref (ad 6276), .int (nI 0), .long 0, .long 0, .long 0, .long 0]) ∧ M (ad 6248) = some (.inl nE, [.ref (ad 6249), .ref (ad 6250), .ref (ad 6251), .ref (ad 66), .int (nI 0), .int (nI 0), .int (nI 0), .int (nI 0), .ref (ad 6252), .ref (ad 68), .ref (ad 6247)]) ∧ M (ad 6249) = some (.inr 3, (List.range 16).map (fun i => Value.ref (ad (2 * (17 + i))))) ∧ M (ad 6250) = some (.inr 0, (List.replicate 16 (0 : Int32)).map .int) ∧ M (ad 6251) = some (.inr 2, (List.replicate 32 (0 : Int32)).map .int) ∧ M (ad 6252) = some (.inr 3, (List.range 512).map (fun i => Value.ref (ad (2 * (35 + i))))) ∧ M (ad 6253) = some (.inl nS, [.int (nI 0), .int (nI 0), .int (nI 16), .int (nI 1), .ref (ad 6254), .ref (ad 1094), .ref (ad 1096), .ref (ad 1098), .ref (ad 1100), .ref (ad 1102), .ref (ad 1104), .ref (ad 6247)]) ∧ M (ad 6254) = some (.inr 3, (List.range 256).map (fun i => Value.ref (ad (2 * (553 + i))))) ∧ M (ad 6255) = some (.inl nF, [.ref (ad (2 * 13)), .ref (ad (2 * (13 + 1))), .ref (ad 6247)]) ∧ M0 (ad 6245) = none ∧ M0 (ad 6246) = none
def XS8 (M0 M : mheap) (ob : Nat) (ad : Nat → Nat) : Prop := INI M ad (fun k => k = 6244 ∨ k = 6245 ∨ k = 6246 ∨ k = 6265 ∨ k = 6274 ∨ (5730 ≤ k ∧ k < 6244) ∨ k = 6247 ∨ k < 26 ∨ (6275 ≤ k ∧ k < 6279) ∨ k = 6248 ∨ (34 ≤ k ∧ k < 1094) ∨ (6249 ≤ k ∧ k < 6253) ∨ k = 6253 ∨ (1094 ≤ k ∧ k < 1618) ∨ k = 6254 ∨ k = 6255 ∨ (26 ≤ k ∧ k < 30) ∨ k = 6256 ∨ (30 ≤ k ∧ k < 34)) ∧ ad 6244 = ob ∧ M ob = some (.inl nX, [.ref (ad 6245), .ref (ad 6246), .ref (ad 6265), .ref (ad 6247), .ref (ad 6248), .ref (ad 6253), .ref (ad 6255), .ref (ad 6256), .int (nI (0))]) ∧ (∀ x, x ≠ ob → M0 x ≠ none → M x = M0 x) ∧ M (ad 6245) = some (.inr 4, List.replicate 8 .null) ∧ M (ad 6246) = some (.inr 0, (List.replicate 16 (0 : Int32)).map .int) ∧ M (ad 6265) = some (.inl nM, [.int (nI 1), .int (nI 1), .ref (ad (2 * (2865 + 256))), .ref (ad 6274)]) ∧ M (ad 6274) = some (.inr 3, (List.range 256).map (fun i => Value.ref (ad (2 * (2865 + i))))) ∧ M (ad 6247) = some (.inl nK, [.ref (ad 6276), .ref (ad 6275), .ref (ad 14), .ref (ad 16), .ref (ad 18), .ref (ad 20), .ref (ad 22), .ref (ad 24)]) ∧ M (ad 6276) = some (.inl nD, [.ref (ad 0), .ref (ad 2), .ref (ad 6277), .ref (ad 6278)]) ∧ M (ad 6277) = some (.inr 0, (List.replicate 253 (0 : Int32)).map .int) ∧ M (ad 6278) = some (.inr 0, (List.replicate 253 (0 : Int32)).map .int) ∧ M (ad 6275) = some (.inl nU, [.ref (ad 4), .ref (ad 6), .ref (ad 8), .ref (ad 10), .ref (ad 12), .ref (ad 6276), .int (nI 0), .long 0, .long 0, .long 0, .long 0]) ∧ M (ad 6248) = some (.inl nE, [.ref (ad 6249), .ref (ad 6250), .ref (ad 6251), .ref (ad 66), .int (nI 0), .int (nI 0), .int (nI 0), .int (nI 0), .ref (ad 6252), .ref (ad 68), .ref (ad 6247)]) ∧ M (ad 6249) = some (.inr 3, (List.range 16).map (fun i => Value.ref (ad (2 * (17 + i))))) ∧ M (ad 6250) = some (.inr 0, (List.replicate 16 (0 : Int32)).map .int) ∧ M (ad 6251) = some (.inr 2, (List.replicate 32 (0 : Int32)).map .int) ∧ M (ad 6252) = some (.inr 3, (List.range 512).map (fun i => Value.ref (ad (2 * (35 + i))))) ∧ M (ad 6253) = some (.inl nS, [.int (nI 0), .int (nI 0), .int (nI 16), .int (nI 1), .ref (ad 6254), .ref (ad 1094), .ref (ad 1096), .ref (ad 1098), .ref (ad 1100), .ref (ad 1102), .ref (ad 1104), .ref (ad 6247)]) ∧ M (ad 6254) = some (.inr 3, (List.range 256).map (fun i => Value.ref (ad (2 * (553 + i))))) ∧ M (ad 6255) = some (.inl nF, [.ref (ad (2 * 13)), .ref (ad (2 * (13 + 1))), .ref (ad 6247)]) ∧ M (ad 6256) = some (.inl nF, [.ref (ad (2 * 15)), .ref (ad (2 * (15 + 1))), .ref (ad 6247)]) ∧ M0 (ad 6245) = none ∧ M0 (ad 6246) = none
def XS9 (M0 M : mheap) (ob : Nat) (ad : Nat → Nat) : Prop := INI M ad (fun k => k = 6244 ∨ k = 6245 ∨ k = 6246 ∨ k = 6265 ∨ k = 6274 ∨ (5730 ≤ k ∧ k < 6244) ∨ k = 6247 ∨ k < 26 ∨ (6275 ≤ k ∧ k < 6279) ∨ k = 6248 ∨ (34 ≤ k ∧ k < 1094) ∨ (6249 ≤ k ∧ k < 6253) ∨ k = 6253 ∨ (1094 ≤ k ∧ k < 1618) ∨ k = 6254 ∨ k = 6255 ∨ (26 ≤ k ∧ k < 30) ∨ k = 6256 ∨ (30 ≤ k ∧ k < 34)) ∧ ad 6244 = ob ∧ M ob = some (.inl nX, [.ref (ad 6245), .ref (ad 6246), .ref (ad 6265), .ref (ad 6247), .ref (ad 6248), .ref (ad 6253), .ref (ad 6255), .ref (ad 6256), .int (-1)]) ∧ (∀ x, x ≠ ob → M0 x ≠ none → M x = M0 x) ∧ M (ad 6245) = some (.inr 4, List.replicate 8 .null) ∧ M (ad 6246) = some (.inr 0, (List.replicate 16 (0 : Int32)).map .int) ∧ M (ad 6265) = some (.inl nM, [.int (nI 1), .int (nI 1), .ref (ad (2 * (2865 + 256))), .ref (ad 6274)]) ∧ M (ad 6274) = some (.inr 3, (List.range 256).map (fun i => Value.ref (ad (2 * (2865 + i))))) ∧ M (ad 6247) = some (.inl nK, [.ref (ad 6276), .ref (ad 6275), .ref (ad 14), .ref (ad 16), .ref (ad 18), .ref (ad 20), .ref (ad 22), .ref (ad 24)]) ∧ M (ad 6276) = some (.inl nD, [.ref (ad 0), .ref (ad 2), .ref (ad 6277), .ref (ad 6278)]) ∧ M (ad 6277) = some (.inr 0, (List.replicate 253 (0 : Int32)).map .int) ∧ M (ad 6278) = some (.inr 0, (List.replicate 253 (0 : Int32)).map .int) ∧ M (ad 6275) = some (.inl nU, [.ref (ad 4), .ref (ad 6), .ref (ad 8), .ref (ad 10), .ref (ad 12), .ref (ad 6276), .int (nI 0), .long 0, .long 0, .long 0, .long 0]) ∧ M (ad 6248) = some (.inl nE, [.ref (ad 6249), .ref (ad 6250), .ref (ad 6251), .ref (ad 66), .int (nI 0), .int (nI 0), .int (nI 0), .int (nI 0), .ref (ad 6252), .ref (ad 68), .ref (ad 6247)]) ∧ M (ad 6249) = some (.inr 3, (List.range 16).map (fun i => Value.ref (ad (2 * (17 + i))))) ∧ M (ad 6250) = some (.inr 0, (List.replicate 16 (0 : Int32)).map .int) ∧ M (ad 6251) = some (.inr 2, (List.replicate 32 (0 : Int32)).map .int) ∧ M (ad 6252) = some (.inr 3, (List.range 512).map (fun i => Value.ref (ad (2 * (35 + i))))) ∧ M (ad 6253) = some (.inl nS, [.int (nI 0), .int (nI 0), .int (nI 16), .int (nI 1), .ref (ad 6254), .ref (ad 1094), .ref (ad 1096), .ref (ad 1098), .ref (ad 1100), .ref (ad 1102), .ref (ad 1104), .ref (ad 6247)]) ∧ M (ad 6254) = some (.inr 3, (List.range 256).map (fun i => Value.ref (ad (2 * (553 + i))))) ∧ M (ad 6255) = some (.inl nF, [.ref (ad (2 * 13)), .ref (ad (2 * (13 + 1))), .ref (ad 6247)]) ∧ M (ad 6256) = some (.inl nF, [.ref (ad (2 * 15)), .ref (ad (2 * (15 + 1))), .ref (ad 6247)]) ∧ M0 (ad 6245) = none ∧ M0 (ad 6246) = none
section I8
variable {G : jg} {d : Nat} {Q : jq} {rc rs : Nat} {M0 M : mheap} {ad : Nat → Nat} {ob : Nat}
theorem x_s1 (hG : kG G) (hS : XS0 M0 M ob ad) (hrc : 1 ≤ rc) (hrs : 8 ≤ rs) (k : ∀ (M' : mheap) (ad' : Nat → Nat) (rc' rs' : Nat), XS1 M0 M' ob ad' → rc ≤ rc' + 1 → rs ≤ rs' + 8 → jj G kX_init (d + 4) Q rc' rs' 13 [some (.ref ob), none] [] M') : jj G kX_init (d + 4) Q rc rs 4 [some (.ref ob), none] [] M := by
  obtain ⟨J, eo, hob, fr⟩ := hS
  have inj := J.1.2
  refine jj_aload_n (pc := 4) kX_init_d4 rfl ?_
  refine jn_bipush (pc := 5) 8 kX_init_d5 (by decide) ?_
  refine jj_anew (pc := 7) (j := 4) (n := 8) kX_init_d7 (kG_t hG rfl) (knX_arrM hG).1 (knX_arrM hG).2 rfl (by decide) (by omega) (by omega) (fun a ha => ?_)
  refine jn_gen (fun Mn eMn => ?_)
  have na : a ≠ ob := fun e => by rw [e, hob] at ha; cases ha
  have hq := (show Mn ob = M ob by rw [eMn, jj_up_ne _ _ (Ne.symm na)]).trans hob
  have hz : Mn a = some (.inr 4, List.replicate 8 .null) := by rw [eMn, jj_up_at]
  have us : ∀ x, M x ≠ none → Mn x = M x := fun x hx => by rw [eMn, jj_up_ne _ _ (fun e => hx (by rw [e]; exact ha))]
  have Jn := J.new (M' := Mn) (ko := 6245) ha (by omega) (fun x hx => by rw [eMn, jj_up_ne _ _ hx]) (by rw [hz]; exact (fun e => (by cases e)))
  obtain ⟨adn, ed⟩ : ∃ f, adu ad 6245 a = f := ⟨_, rfl⟩
  rw [ed] at Jn
  have y : adn 6245 = a := by rw [← ed, adu_at]
  have ag : ∀ k, k = 6244 → adn k = ad k := fun k hk => by rw [← ed, adu_ne _ (by omega)]
  have eon : adn 6244 = ob := (ag 6244 (by omega)).trans eo
  show jj G kX_init (d + 4) Q (rc - 1) (rs - 8) 10 [some (.ref ob), none] [.ref a, .ref ob] Mn
  refine jj_putF (pc := 10) kX_init_d10 (kpX_registers hG) rfl hq (by rfl) rfl ?_
  refine jn_gen (fun M101 hM102 => ?_)
  have h103 : M101 ob = some (.inl nX, [.ref a, .null, .null, .null, .null, .null, .null, .null, .int (nI (0))]) := by rw [hM102]; exact jj_up_at _ _ _
  have kk : ∀ k, k = 6244 → k ≠ 6244 → M101 (ad k) = M (ad k) := fun k hk hn => by
    rw [hM102, jj_up_ne _ _ (fun e => hn (inj k 6244 hk (by omega) (e.trans eo.symm))), us _ (J.1.1 k hk)]
  have J2 := Jn.put (M' := M101) (ko := 6244) (by omega) (by omega) (fun x hx => by rw [hM102, jj_up_ne _ _ (by rw [← eon]; exact hx)]) (by rw [eon, h103]; exact (fun e => (by cases e)))
  show jj G kX_init (d + 4) Q (rc - 1) (rs - 8) 13 [some (.ref ob), none] [] M101
  exact k M101 adn _ _ ⟨J2.weak (fun k hk => by omega), eon, by rw [y]; exact h103, fun x h1 h2 => ((show M101 x = Mn x by rw [hM102, jj_up_ne _ _ h1]).trans (us x (by rw [fr x h1 h2]; exact h2))).trans (fr x h1 h2), (by rw [y, hM102, jj_up_ne _ _ na]; exact hz), (by rw [y]; exact Classical.byContradiction (fun h => h ((fr _ na h).symm.trans ha)))⟩ (by omega) (by omega)
theorem x_s2 (hG : kG G) (hS : XS1 M0 M ob ad) (hrc : 1 ≤ rc) (hrs : 16 ≤ rs) (k : ∀ (M' : mheap) (ad' : Nat → Nat) (rc' rs' : Nat), XS2 M0 M' ob ad' → rc ≤ rc' + 1 → rs ≤ rs' + 16 → jj G kX_init (d + 4) Q rc' rs' 21 [some (.ref ob), none] [] M') : jj G kX_init (d + 4) Q rc rs 13 [some (.ref ob), none] [] M := by
  obtain ⟨J, eo, hob, fr, h6245, n6245⟩ := hS
  have inj := J.1.2
  refine jj_aload_n (pc := 13) kX_init_d13 rfl ?_
  refine jn_bipush (pc := 14) 16 kX_init_d14 (by decide) ?_
  refine jj_newa (pc := 16) (j := 0) (n := 16) (ty := .int) kX_init_d16 rfl (kG_t hG rfl) (fun C h => by cases h) (ka_int hG) rfl (by decide) (by omega) (by omega) (fun a ha => ?_)
  refine jn_gen (fun Mn eMn => ?_)
  have na : a ≠ ob := fun e => by rw [e, hob] at ha; cases ha
  have hq := (show Mn ob = M ob by rw [eMn, jj_up_ne _ _ (Ne.symm na)]).trans hob
  have hz : Mn a = some (.inr 0, (List.replicate 16 (0 : Int32)).map .int) := by rw [eMn, jj_up_at, List.map_replicate]; rfl
  have us : ∀ x, M x ≠ none → Mn x = M x := fun x hx => by rw [eMn, jj_up_ne _ _ (fun e => hx (by rw [e]; exact ha))]
  have Jn := J.new (M' := Mn) (ko := 6246) ha (by omega) (fun x hx => by rw [eMn, jj_up_ne _ _ hx]) (by rw [hz]; exact (fun e => (by cases e)))
  obtain ⟨adn, ed⟩ : ∃ f, adu ad 6246 a = f := ⟨_, rfl⟩
  rw [ed] at Jn
  have y : adn 6246 = a := by rw [← ed, adu_at]
  have ag : ∀ k, k = 6244 ∨ k = 6245 → adn k = ad k := fun k hk => by rw [← ed, adu_ne _ (by omega)]
  have eon : adn 6244 = ob := (ag 6244 (by omega)).trans eo
  show jj G kX_init (d + 4) Q (rc - 1) (rs - 16) 18 [some (.ref ob), none] [.ref a, .ref ob] Mn
  refine jj_putF (pc := 18) kX_init_d18 (kpX_everyColumn hG) rfl hq (by rfl) rfl ?_
  refine jn_gen (fun M104 hM105 => ?_)
  have h106 : M104 ob = some (.inl nX, [.ref (ad 6245), .ref a, .null, .null, .null, .null, .null, .null, .int (nI (0))]) := by rw [hM105]; exact jj_up_at _ _ _
  have kk : ∀ k, k = 6244 ∨ k = 6245 → k ≠ 6244 → M104 (ad k) = M (ad k) := fun k hk hn => by
    rw [hM105, jj_up_ne _ _ (fun e => hn (inj k 6244 hk (by omega) (e.trans eo.symm))), us _ (J.1.1 k hk)]
  have J2 := Jn.put (M' := M104) (ko := 6244) (by omega) (by omega) (fun x hx => by rw [hM105, jj_up_ne _ _ (by rw [← eon]; exact hx)]) (by rw [eon, h106]; exact (fun e => (by cases e)))
  show jj G kX_init (d + 4) Q (rc - 1) (rs - 16) 21 [some (.ref ob), none] [] M104
  exact k M104 adn _ _ ⟨J2.weak (fun k hk => by omega), eon, by rw [ag 6245 (by omega), y]; exact h106, fun x h1 h2 => ((show M104 x = Mn x by rw [hM105, jj_up_ne _ _ h1]).trans (us x (by rw [fr x h1 h2]; exact h2))).trans (fr x h1 h2), (by rw [ag 6245 (by omega), kk 6245 (by omega) (by omega), h6245]), (by rw [y, hM105, jj_up_ne _ _ na]; exact hz), (by rw [ag 6245 (by omega)]; exact n6245), (by rw [y]; exact Classical.byContradiction (fun h => h ((fr _ na h).symm.trans ha)))⟩ (by omega) (by omega)
theorem x_s3 (hG : kG G) (hS : XS2 M0 M ob ad) (hrc : 516 ≤ rc) (hrs : 65795 ≤ rs) (k : ∀ (M' : mheap) (ad' : Nat → Nat) (rc' rs' : Nat), XS3 M0 M' ob ad' → rc ≤ rc' + 516 → rs ≤ rs' + 65795 → jj G kX_init (d + 4) Q rc' rs' 35 [some (.ref ob), none] [] M') : jj G kX_init (d + 4) Q rc rs 21 [some (.ref ob), none] [] M := by
  obtain ⟨J, eo, hob, fr, h6245, h6246, n6245, n6246⟩ := hS
  have inj := J.1.2
  refine jj_aload_n (pc := 21) kX_init_d21 rfl ?_
  refine jj_new (pc := 22) kX_init_d22 (knX_M hG) (by omega) (show 4 ≤ _ by omega) (fun a ha => ?_)
  refine jn_gen (fun Mp eMp => ?_)
  have na : a ≠ ob := fun e => by rw [e, hob] at ha; cases ha
  have kp : ∀ x, M x ≠ none → Mp x = M x := fun x hx => by rw [eMp, jj_up_ne _ _ (fun e => hx (by rw [e]; exact ha))]
  have hp := (kp ob (by rw [hob]; exact (fun e => (by cases e)))).trans hob
  have hc : Mp a = some (.inl nM, [.int (nI (0)), .int (nI (0)), .null, .null]) := by rw [eMp]; exact jj_up_at _ _ _
  have Jp := J.new (M' := Mp) (ko := 6265) ha (by omega) (fun x hx => by rw [eMp, jj_up_ne _ _ hx]) (by rw [hc]; exact (fun e => (by cases e)))
  obtain ⟨dq, ed⟩ : ∃ f, adu ad 6265 a = f := ⟨_, rfl⟩
  rw [ed] at Jp
  have yq : dq 6265 = a := by rw [← ed, adu_at]
  show jj G kX_init (d + 4) Q (rc - 1) (rs - 4) 25 [some (.ref ob), none] [.ref a, .ref ob] Mp
  refine jj_dup (pc := 25) kX_init_d25 rfl ?_
  refine jn_sipush (pc := 26) 252 kX_init_d26 (by decide) ?_
  refine jj_callI (pc := 29) (b := a) (As := [.int (nI (252))]) kX_init_d29 (kvX_M_init hG) rfl rfl rfl (Nat.le_of_ble_eq_true rfl) (Nat.le_of_ble_eq_true rfl) (jj_bare0 rfl) ?_
  refine mx_make (b := 2865) (c := 252) (ka := 6274) (by omega) (by omega) (by omega) (by omega) (fun i h6 => capx_dr h6) hG (ko := 6265) hc Jp yq (Or.inr rfl) (by omega) (fun k hk => by rcases hk with h | h <;> omega) (by omega) (by omega) (fun Mn adn rcn rsn Jn gn cn g6274 fn rcl rsl => ?_)
  have us : ∀ x, M x ≠ none → Mn x = M x := fun x hx => (fn x (fun e => hx (by rw [e]; exact ha)) (by rw [kp x hx]; exact hx)).trans (kp x hx)
  have hq := (us ob (by rw [hob]; exact (fun e => (by cases e)))).trans hob
  have ag : ∀ k, k = 6244 ∨ k = 6245 ∨ k = 6246 → adn k = ad k := fun k hk => by rw [gn k (Or.inl hk), ← ed, adu_ne _ (by omega)]
  have y : adn 6265 = a := (gn _ (Or.inr rfl)).trans yq
  have eon : adn 6244 = ob := (ag 6244 (by omega)).trans eo
  show jj G kX_init (d + 4) Q rcn rsn 32 [some (.ref ob), none] [.ref a, .ref ob] Mn
  refine jj_putF (pc := 32) kX_init_d32 (kpX_draft hG) rfl hq (by rfl) rfl ?_
  refine jn_gen (fun M107 hM108 => ?_)
  have h109 : M107 ob = some (.inl nX, [.ref (ad 6245), .ref (ad 6246), .ref a, .null, .null, .null, .null, .null, .int (nI (0))]) := by rw [hM108]; exact jj_up_at _ _ _
  have kk : ∀ k, k = 6244 ∨ k = 6245 ∨ k = 6246 → k ≠ 6244 → M107 (ad k) = M (ad k) := fun k hk hn => by
    rw [hM108, jj_up_ne _ _ (fun e => hn (inj k 6244 hk (by omega) (e.trans eo.symm))), us _ (J.1.1 k hk)]
  have J2 := Jn.put (M' := M107) (ko := 6244) (by omega) (by omega) (fun x hx => by rw [hM108, jj_up_ne _ _ (by rw [← eon]; exact hx)]) (by rw [eon, h109]; exact (fun e => (by cases e)))
  show jj G kX_init (d + 4) Q rcn rsn 35 [some (.ref ob), none] [] M107
  exact k M107 adn _ _ ⟨J2.weak (fun k hk => by omega), eon, by rw [ag 6245 (by omega), ag 6246 (by omega), y]; exact h109, fun x h1 h2 => ((show M107 x = Mn x by rw [hM108, jj_up_ne _ _ h1]).trans (us x (by rw [fr x h1 h2]; exact h2))).trans (fr x h1 h2), (by rw [ag 6245 (by omega), kk 6245 (by omega) (by omega), h6245]), (by rw [ag 6246 (by omega), kk 6246 (by omega) (by omega), h6246]), (by rw [y, hM108, jj_up_ne _ _ na, cn]), (by rw [hM108, jj_up_ne _ _ (fun e => by have q1 := g6274; rw [e, hq] at q1; cases q1)]; exact g6274), (by rw [ag 6245 (by omega)]; exact n6245), (by rw [ag 6246 (by omega)]; exact n6246)⟩ (by omega) (by omega)
theorem x_s4 (hG : kG G) (hS : XS3 M0 M ob ad) (hrc : 31 ≤ rc) (hrs : 3844 ≤ rs) (k : ∀ (M' : mheap) (ad' : Nat → Nat) (rc' rs' : Nat), XS4 M0 M' ob ad' → rc ≤ rc' + 31 → rs ≤ rs' + 3844 → jj G kX_init (d + 4) Q rc' rs' 46 [some (.ref ob), none] [] M') : jj G kX_init (d + 4) Q rc rs 35 [some (.ref ob), none] [] M := by
  obtain ⟨J, eo, hob, fr, h6245, h6246, h6265, h6274, n6245, n6246⟩ := hS
  have inj := J.1.2
  refine jj_aload_n (pc := 35) kX_init_d35 rfl ?_
  refine jj_new (pc := 36) kX_init_d36 (knX_K hG) (by omega) (show 8 ≤ _ by omega) (fun a ha => ?_)
  refine jn_gen (fun Mp eMp => ?_)
  have na : a ≠ ob := fun e => by rw [e, hob] at ha; cases ha
  have kp : ∀ x, M x ≠ none → Mp x = M x := fun x hx => by rw [eMp, jj_up_ne _ _ (fun e => hx (by rw [e]; exact ha))]
  have hp := (kp ob (by rw [hob]; exact (fun e => (by cases e)))).trans hob
  have hc : Mp a = some (.inl nK, [.null, .null, .null, .null, .null, .null, .null, .null]) := by rw [eMp]; exact jj_up_at _ _ _
  have Jp := J.new (M' := Mp) (ko := 6247) ha (by omega) (fun x hx => by rw [eMp, jj_up_ne _ _ hx]) (by rw [hc]; exact (fun e => (by cases e)))
  obtain ⟨dq, ed⟩ : ∃ f, adu ad 6247 a = f := ⟨_, rfl⟩
  rw [ed] at Jp
  have yq : dq 6247 = a := by rw [← ed, adu_at]
  show jj G kX_init (d + 4) Q (rc - 1) (rs - 8) 39 [some (.ref ob), none] [.ref a, .ref ob] Mp
  refine jj_dup (pc := 39) kX_init_d39 rfl ?_
  refine jj_callI (pc := 40) (b := a) (As := []) kX_init_d40 (kvX_K_init hG) rfl rfl rfl (Nat.le_of_ble_eq_true rfl) (Nat.le_of_ble_eq_true rfl) (jj_bare0 rfl) ?_
  refine k_init hG (ko := 6247) hc Jp yq (Or.inr rfl) (by omega) (fun k hk => by rcases hk with h | h <;> omega) (by omega) (by omega) (fun Mn adn rcn rsn Jn gn cn g6276 g6277 g6278 g6275 fn rcl rsl => ?_)
  have us : ∀ x, M x ≠ none → Mn x = M x := fun x hx => (fn x (fun e => hx (by rw [e]; exact ha)) (by rw [kp x hx]; exact hx)).trans (kp x hx)
  have hq := (us ob (by rw [hob]; exact (fun e => (by cases e)))).trans hob
  have ag : ∀ k, k = 6244 ∨ k = 6245 ∨ k = 6246 ∨ k = 6265 ∨ k = 6274 ∨ (5730 ≤ k ∧ k < 6244) → adn k = ad k := fun k hk => by rw [gn k (Or.inl hk), ← ed, adu_ne _ (by omega)]
  have y : adn 6247 = a := (gn _ (Or.inr rfl)).trans yq
  have eon : adn 6244 = ob := (ag 6244 (by omega)).trans eo
  show jj G kX_init (d + 4) Q rcn rsn 43 [some (.ref ob), none] [.ref a, .ref ob] Mn
  refine jj_putF (pc := 43) kX_init_d43 (kpX_desk hG) rfl hq (by rfl) rfl ?_
  refine jn_gen (fun M110 hM111 => ?_)
  have h112 : M110 ob = some (.inl nX, [.ref (ad 6245), .ref (ad 6246), .ref (ad 6265), .ref a, .null, .null, .null, .null, .int (nI (0))]) := by rw [hM111]; exact jj_up_at _ _ _
  have kk : ∀ k, k = 6244 ∨ k = 6245 ∨ k = 6246 ∨ k = 6265 ∨ k = 6274 ∨ (5730 ≤ k ∧ k < 6244) → k ≠ 6244 → M110 (ad k) = M (ad k) := fun k hk hn => by
    rw [hM111, jj_up_ne _ _ (fun e => hn (inj k 6244 hk (by omega) (e.trans eo.symm))), us _ (J.1.1 k hk)]
  have J2 := Jn.put (M' := M110) (ko := 6244) (by omega) (by omega) (fun x hx => by rw [hM111, jj_up_ne _ _ (by rw [← eon]; exact hx)]) (by rw [eon, h112]; exact (fun e => (by cases e)))
  show jj G kX_init (d + 4) Q rcn rsn 46 [some (.ref ob), none] [] M110
  exact k M110 adn _ _ ⟨J2.weak (fun k hk => by omega), eon, by rw [ag 6245 (by omega), ag 6246 (by omega), ag 6265 (by omega), y]; exact h112, fun x h1 h2 => ((show M110 x = Mn x by rw [hM111, jj_up_ne _ _ h1]).trans (us x (by rw [fr x h1 h2]; exact h2))).trans (fr x h1 h2), (by rw [ag 6245 (by omega), kk 6245 (by omega) (by omega), h6245]), (by rw [ag 6246 (by omega), kk 6246 (by omega) (by omega), h6246]), (by rw [ag 6265 (by omega), kk 6265 (by omega) (by omega), h6265, ag (2 * (2865 + 256)) (by omega), ag 6274 (by omega)]), (by
      rw [ag 6274 (by omega), kk 6274 (by omega) (by omega), h6274]
      refine congrArg some (congrArg (Prod.mk _) (List.map_congr_left (fun l hl => ?_)))
      have hl2 := List.mem_range.mp hl
      rw [ag (2 * (2865 + l)) (by omega)]), (by rw [y, hM111, jj_up_ne _ _ na, cn]), (by rw [hM111, jj_up_ne _ _ (fun e => by have q1 := g6276; rw [e, hq] at q1; cases q1)]; exact g6276), (by rw [hM111, jj_up_ne _ _ (fun e => by have q1 := g6277; rw [e, hq] at q1; cases q1)]; exact g6277), (by rw [hM111, jj_up_ne _ _ (fun e => by have q1 := g6278; rw [e, hq] at q1; cases q1)]; exact g6278), (by rw [hM111, jj_up_ne _ _ (fun e => by have q1 := g6275; rw [e, hq] at q1; cases q1)]; exact g6275), (by rw [ag 6245 (by omega)]; exact n6245), (by rw [ag 6246 (by omega)]; exact n6246)⟩ (by omega) (by omega)
theorem x_s5 (hG : kG G) (hS : XS4 M0 M ob ad) (hrc : 1065 ≤ rc) (hrs : 37134 ≤ rs) (k : ∀ (M' : mheap) (ad' : Nat → Nat) (rc' rs' : Nat), XS5 M0 M' ob ad' → rc ≤ rc' + 1065 → rs ≤ rs' + 37134 → jj G kX_init (d + 4) Q rc' rs' 61 [some (.ref ob), none] [] M') : jj G kX_init (d + 4) Q rc rs 46 [some (.ref ob), none] [] M := by
  obtain ⟨J, eo, hob, fr, h6245, h6246, h6265, h6274, h6247, h6276, h6277, h6278, h6275, n6245, n6246⟩ := hS
  have inj := J.1.2
  refine jj_aload_n (pc := 46) kX_init_d46 rfl ?_
  refine jj_new (pc := 47) kX_init_d47 (knX_E hG) (by omega) (show 11 ≤ _ by omega) (fun a ha => ?_)
  refine jn_gen (fun Mp eMp => ?_)
  have na : a ≠ ob := fun e => by rw [e, hob] at ha; cases ha
  have kp : ∀ x, M x ≠ none → Mp x = M x := fun x hx => by rw [eMp, jj_up_ne _ _ (fun e => hx (by rw [e]; exact ha))]
  have hp := (kp ob (by rw [hob]; exact (fun e => (by cases e)))).trans hob
  have hc : Mp a = some (.inl nE, [.null, .null, .null, .null, .int (nI (0)), .int (nI (0)), .int (nI (0)), .int (nI (0)), .null, .null, .null]) := by rw [eMp]; exact jj_up_at _ _ _
  have Jp := J.new (M' := Mp) (ko := 6248) ha (by omega) (fun x hx => by rw [eMp, jj_up_ne _ _ hx]) (by rw [hc]; exact (fun e => (by cases e)))
  obtain ⟨dq, ed⟩ : ∃ f, adu ad 6248 a = f := ⟨_, rfl⟩
  rw [ed] at Jp
  have yq : dq 6248 = a := by rw [← ed, adu_at]
  show jj G kX_init (d + 4) Q (rc - 1) (rs - 11) 50 [some (.ref ob), none] [.ref a, .ref ob] Mp
  refine jj_dup (pc := 50) kX_init_d50 rfl ?_
  refine jj_aload_n (pc := 51) kX_init_d51 rfl ?_
  refine jj_getf (pc := 52) kX_init_d52 (kfX_desk hG) hp rfl ?_
  refine jj_callI (pc := 55) (b := a) (As := [.ref (ad 6247)]) kX_init_d55 (kvX_E_init hG) rfl rfl rfl (Nat.le_of_ble_eq_true rfl) (Nat.le_of_ble_eq_true rfl) (jj_bare0 rfl) ?_
  refine el_init hG (ko := 6248) hc Jp yq (Or.inr rfl) (by omega) (fun k hk => by rcases hk with h | h <;> omega) (by omega) (by omega) (fun Mn adn rcn rsn Jn gn cn g6249 g6250 g6251 g6252 fn rcl rsl => ?_)
  have us : ∀ x, M x ≠ none → Mn x = M x := fun x hx => (fn x (fun e => hx (by rw [e]; exact ha)) (by rw [kp x hx]; exact hx)).trans (kp x hx)
  have hq := (us ob (by rw [hob]; exact (fun e => (by cases e)))).trans hob
  have ag : ∀ k, k = 6244 ∨ k = 6245 ∨ k = 6246 ∨ k = 6265 ∨ k = 6274 ∨ (5730 ≤ k ∧ k < 6244) ∨ k = 6247 ∨ k < 26 ∨ (6275 ≤ k ∧ k < 6279) → adn k = ad k := fun k hk => by rw [gn k (Or.inl hk), ← ed, adu_ne _ (by omega)]
  have y : adn 6248 = a := (gn _ (Or.inr rfl)).trans yq
  have eon : adn 6244 = ob := (ag 6244 (by omega)).trans eo
  show jj G kX_init (d + 4) Q rcn rsn 58 [some (.ref ob), none] [.ref a, .ref ob] Mn
  refine jj_putF (pc := 58) kX_init_d58 (kpX_elimination hG) rfl hq (by rfl) rfl ?_
  refine jn_gen (fun M113 hM114 => ?_)
  have h115 : M113 ob = some (.inl nX, [.ref (ad 6245), .ref (ad 6246), .ref (ad 6265), .ref (ad 6247), .ref a, .null, .null, .null, .int (nI (0))]) := by rw [hM114]; exact jj_up_at _ _ _
  have kk : ∀ k, k = 6244 ∨ k = 6245 ∨ k = 6246 ∨ k = 6265 ∨ k = 6274 ∨ (5730 ≤ k ∧ k < 6244) ∨ k = 6247 ∨ k < 26 ∨ (6275 ≤ k ∧ k < 6279) → k ≠ 6244 → M113 (ad k) = M (ad k) := fun k hk hn => by
    rw [hM114, jj_up_ne _ _ (fun e => hn (inj k 6244 hk (by omega) (e.trans eo.symm))), us _ (J.1.1 k hk)]
  have J2 := Jn.put (M' := M113) (ko := 6244) (by omega) (by omega) (fun x hx => by rw [hM114, jj_up_ne _ _ (by rw [← eon]; exact hx)]) (by rw [eon, h115]; exact (fun e => (by cases e)))
  show jj G kX_init (d + 4) Q rcn rsn 61 [some (.ref ob), none] [] M113
  exact k M113 adn _ _ ⟨J2.weak (fun k hk => by omega), eon, by rw [ag 6245 (by omega), ag 6246 (by omega), ag 6265 (by omega), ag 6247 (by omega), y]; exact h115, fun x h1 h2 => ((show M113 x = Mn x by rw [hM114, jj_up_ne _ _ h1]).trans (us x (by rw [fr x h1 h2]; exact h2))).trans (fr x h1 h2), (by rw [ag 6245 (by omega), kk 6245 (by omega) (by omega), h6245]), (by rw [ag 6246 (by omega), kk 6246 (by omega) (by omega), h6246]), (by rw [ag 6265 (by omega), kk 6265 (by omega) (by omega), h6265, ag (2 * (2865 + 256)) (by omega), ag 6274 (by omega)]), (by
      rw [ag 6274 (by omega), kk 6274 (by omega) (by omega), h6274]
      refine congrArg some (congrArg (Prod.mk _) (List.map_congr_left (fun l hl => ?_)))
      have hl2 := List.mem_range.mp hl
      rw [ag (2 * (2865 + l)) (by omega)]), (by rw [ag 6247 (by omega), kk 6247 (by omega) (by omega), h6247, ag 6276 (by omega), ag 6275 (by omega), ag 14 (by omega), ag 16 (by omega), ag 18 (by omega), ag 20 (by omega), ag 22 (by omega), ag 24 (by omega)]), (by rw [ag 6276 (by omega), kk 6276 (by omega) (by omega), h6276, ag 0 (by omega), ag 2 (by omega), ag 6277 (by omega), ag 6278 (by omega)]), (by rw [ag 6277 (by omega), kk 6277 (by omega) (by omega), h6277]), (by rw [ag 6278 (by omega), kk 6278 (by omega) (by omega), h6278]), (by rw [ag 6275 (by omega), kk 6275 (by omega) (by omega), h6275, ag 4 (by omega), ag 6 (by omega), ag 8 (by omega), ag 10 (by omega), ag 12 (by omega), ag 6276 (by omega)]), (by rw [y, hM114, jj_up_ne _ _ na, cn, ag 6247 (by omega)]), (by rw [hM114, jj_up_ne _ _ (fun e => by have q1 := g6249; rw [e, hq] at q1; cases q1)]; exact g6249), (by rw [hM114, jj_up_ne _ _ (fun e => by have q1 := g6250; rw [e, hq] at q1; cases q1)]; exact g6250), (by rw [hM114, jj_up_ne _ _ (fun e => by have q1 := g6251; rw [e, hq] at q1; cases q1)]; exact g6251), (by rw [hM114, jj_up_ne _ _ (fun e => by have q1 := g6252; rw [e, hq] at q1; cases q1)]; exact g6252), (by rw [ag 6245 (by omega)]; exact n6245), (by rw [ag 6246 (by omega)]; exact n6246)⟩ (by omega) (by omega)
theorem x_s6 (hG : kG G) (hS : XS5 M0 M ob ad) (hrc : 526 ≤ rc) (hrs : 18762 ≤ rs) (k : ∀ (M' : mheap) (ad' : Nat → Nat) (rc' rs' : Nat), XS6 M0 M' ob ad' → rc ≤ rc' + 526 → rs ≤ rs' + 18762 → jj G kX_init (d + 4) Q rc' rs' 76 [some (.ref ob), none] [] M') : jj G kX_init (d + 4) Q rc rs 61 [some (.ref ob), none] [] M := by
  obtain ⟨J, eo, hob, fr, h6245, h6246, h6265, h6274, h6247, h6276, h6277, h6278, h6275, h6248, h6249, h6250, h6251, h6252, n6245, n6246⟩ := hS
  have inj := J.1.2
  refine jj_aload_n (pc := 61) kX_init_d61 rfl ?_
  refine jj_new (pc := 62) kX_init_d62 (knX_S hG) (by omega) (show 12 ≤ _ by omega) (fun a ha => ?_)
  refine jn_gen (fun Mp eMp => ?_)
  have na : a ≠ ob := fun e => by rw [e, hob] at ha; cases ha
  have kp : ∀ x, M x ≠ none → Mp x = M x := fun x hx => by rw [eMp, jj_up_ne _ _ (fun e => hx (by rw [e]; exact ha))]
  have hp := (kp ob (by rw [hob]; exact (fun e => (by cases e)))).trans hob
  have hc : Mp a = some (.inl nS, [.int (nI (0)), .int (nI (0)), .int (nI (0)), .int (nI (0)), .null, .null, .null, .null, .null, .null, .null, .null]) := by rw [eMp]; exact jj_up_at _ _ _
  have Jp := J.new (M' := Mp) (ko := 6253) ha (by omega) (fun x hx => by rw [eMp, jj_up_ne _ _ hx]) (by rw [hc]; exact (fun e => (by cases e)))
  obtain ⟨dq, ed⟩ : ∃ f, adu ad 6253 a = f := ⟨_, rfl⟩
  rw [ed] at Jp
  have yq : dq 6253 = a := by rw [← ed, adu_at]
  show jj G kX_init (d + 4) Q (rc - 1) (rs - 12) 65 [some (.ref ob), none] [.ref a, .ref ob] Mp
  refine jj_dup (pc := 65) kX_init_d65 rfl ?_
  refine jj_aload_n (pc := 66) kX_init_d66 rfl ?_
  refine jj_getf (pc := 67) kX_init_d67 (kfX_desk hG) hp rfl ?_
  refine jj_callI (pc := 70) (b := a) (As := [.ref (ad 6247)]) kX_init_d70 (kvX_S_init hG) rfl rfl rfl (Nat.le_of_ble_eq_true rfl) (Nat.le_of_ble_eq_true rfl) (jj_bare0 rfl) ?_
  refine s_init hG (ko := 6253) hc Jp yq (Or.inr rfl) (by omega) (fun k hk => by rcases hk with h | h <;> omega) (by omega) (by omega) (fun Mn adn rcn rsn Jn gn cn g6254 fn rcl rsl => ?_)
  have us : ∀ x, M x ≠ none → Mn x = M x := fun x hx => (fn x (fun e => hx (by rw [e]; exact ha)) (by rw [kp x hx]; exact hx)).trans (kp x hx)
  have hq := (us ob (by rw [hob]; exact (fun e => (by cases e)))).trans hob
  have ag : ∀ k, k = 6244 ∨ k = 6245 ∨ k = 6246 ∨ k = 6265 ∨ k = 6274 ∨ (5730 ≤ k ∧ k < 6244) ∨ k = 6247 ∨ k < 26 ∨ (6275 ≤ k ∧ k < 6279) ∨ k = 6248 ∨ (34 ≤ k ∧ k < 1094) ∨ (6249 ≤ k ∧ k < 6253) → adn k = ad k := fun k hk => by rw [gn k (Or.inl hk), ← ed, adu_ne _ (by omega)]
  have y : adn 6253 = a := (gn _ (Or.inr rfl)).trans yq
  have eon : adn 6244 = ob := (ag 6244 (by omega)).trans eo
  show jj G kX_init (d + 4) Q rcn rsn 73 [some (.ref ob), none] [.ref a, .ref ob] Mn
  refine jj_putF (pc := 73) kX_init_d73 (kpX_residues hG) rfl hq (by rfl) rfl ?_
  refine jn_gen (fun M116 hM117 => ?_)
  have h118 : M116 ob = some (.inl nX, [.ref (ad 6245), .ref (ad 6246), .ref (ad 6265), .ref (ad 6247), .ref (ad 6248), .ref a, .null, .null, .int (nI (0))]) := by rw [hM117]; exact jj_up_at _ _ _
  have kk : ∀ k, k = 6244 ∨ k = 6245 ∨ k = 6246 ∨ k = 6265 ∨ k = 6274 ∨ (5730 ≤ k ∧ k < 6244) ∨ k = 6247 ∨ k < 26 ∨ (6275 ≤ k ∧ k < 6279) ∨ k = 6248 ∨ (34 ≤ k ∧ k < 1094) ∨ (6249 ≤ k ∧ k < 6253) → k ≠ 6244 → M116 (ad k) = M (ad k) := fun k hk hn => by
    rw [hM117, jj_up_ne _ _ (fun e => hn (inj k 6244 hk (by omega) (e.trans eo.symm))), us _ (J.1.1 k hk)]
  have J2 := Jn.put (M' := M116) (ko := 6244) (by omega) (by omega) (fun x hx => by rw [hM117, jj_up_ne _ _ (by rw [← eon]; exact hx)]) (by rw [eon, h118]; exact (fun e => (by cases e)))
  show jj G kX_init (d + 4) Q rcn rsn 76 [some (.ref ob), none] [] M116
  exact k M116 adn _ _ ⟨J2.weak (fun k hk => by omega), eon, by rw [ag 6245 (by omega), ag 6246 (by omega), ag 6265 (by omega), ag 6247 (by omega), ag 6248 (by omega), y]; exact h118, fun x h1 h2 => ((show M116 x = Mn x by rw [hM117, jj_up_ne _ _ h1]).trans (us x (by rw [fr x h1 h2]; exact h2))).trans (fr x h1 h2), (by rw [ag 6245 (by omega), kk 6245 (by omega) (by omega), h6245]), (by rw [ag 6246 (by omega), kk 6246 (by omega) (by omega), h6246]), (by rw [ag 6265 (by omega), kk 6265 (by omega) (by omega), h6265, ag (2 * (2865 + 256)) (by omega), ag 6274 (by omega)]), (by
      rw [ag 6274 (by omega), kk 6274 (by omega) (by omega), h6274]
      refine congrArg some (congrArg (Prod.mk _) (List.map_congr_left (fun l hl => ?_)))
      have hl2 := List.mem_range.mp hl
      rw [ag (2 * (2865 + l)) (by omega)]), (by rw [ag 6247 (by omega), kk 6247 (by omega) (by omega), h6247, ag 6276 (by omega), ag 6275 (by omega), ag 14 (by omega), ag 16 (by omega), ag 18 (by omega), ag 20 (by omega), ag 22 (by omega), ag 24 (by omega)]), (by rw [ag 6276 (by omega), kk 6276 (by omega) (by omega), h6276, ag 0 (by omega), ag 2 (by omega), ag 6277 (by omega), ag 6278 (by omega)]), (by rw [ag 6277 (by omega), kk 6277 (by omega) (by omega), h6277]), (by rw [ag 6278 (by omega), kk 6278 (by omega) (by omega), h6278]), (by rw [ag 6275 (by omega), kk 6275 (by omega) (by omega), h6275, ag 4 (by omega), ag 6 (by omega), ag 8 (by omega), ag 10 (by omega), ag 12 (by omega), ag 6276 (by omega)]), (by rw [ag 6248 (by omega), kk 6248 (by omega) (by omega), h6248, ag 6249 (by omega), ag 6250 (by omega), ag 6251 (by omega), ag 66 (by omega), ag 6252 (by omega), ag 68 (by omega), ag 6247 (by omega)]), (by
      rw [ag 6249 (by omega), kk 6249 (by omega) (by omega), h6249]
      refine congrArg some (congrArg (Prod.mk _) (List.map_congr_left (fun l hl => ?_)))
      have hl2 := List.mem_range.mp hl
      rw [ag (2 * (17 + l)) (by omega)]), (by rw [ag 6250 (by omega), kk 6250 (by omega) (by omega), h6250]), (by rw [ag 6251 (by omega), kk 6251 (by omega) (by omega), h6251]), (by
      rw [ag 6252 (by omega), kk 6252 (by omega) (by omega), h6252]
      refine congrArg some (congrArg (Prod.mk _) (List.map_congr_left (fun l hl => ?_)))
      have hl2 := List.mem_range.mp hl
      rw [ag (2 * (35 + l)) (by omega)]), (by rw [y, hM117, jj_up_ne _ _ na, cn, ag 6247 (by omega)]), (by rw [hM117, jj_up_ne _ _ (fun e => by have q1 := g6254; rw [e, hq] at q1; cases q1)]; exact g6254), (by rw [ag 6245 (by omega)]; exact n6245), (by rw [ag 6246 (by omega)]; exact n6246)⟩ (by omega) (by omega)
theorem x_s7 (hG : kG G) (hS : XS6 M0 M ob ad) (hrc : 5 ≤ rc) (hrs : 513 ≤ rs) (k : ∀ (M' : mheap) (ad' : Nat → Nat) (rc' rs' : Nat), XS7 M0 M' ob ad' → rc ≤ rc' + 5 → rs ≤ rs' + 513 → jj G kX_init (d + 4) Q rc' rs' 91 [some (.ref ob), none] [] M') : jj G kX_init (d + 4) Q rc rs 76 [some (.ref ob), none] [] M := by
  obtain ⟨J, eo, hob, fr, h6245, h6246, h6265, h6274, h6247, h6276, h6277, h6278, h6275, h6248, h6249, h6250, h6251, h6252, h6253, h6254, n6245, n6246⟩ := hS
  have inj := J.1.2
  refine jj_aload_n (pc := 76) kX_init_d76 rfl ?_
  refine jj_new (pc := 77) kX_init_d77 (knX_F hG) (by omega) (show 3 ≤ _ by omega) (fun a ha => ?_)
  refine jn_gen (fun Mp eMp => ?_)
  have na : a ≠ ob := fun e => by rw [e, hob] at ha; cases ha
  have kp : ∀ x, M x ≠ none → Mp x = M x := fun x hx => by rw [eMp, jj_up_ne _ _ (fun e => hx (by rw [e]; exact ha))]
  have hp := (kp ob (by rw [hob]; exact (fun e => (by cases e)))).trans hob
  have hc : Mp a = some (.inl nF, [.null, .null, .null]) := by rw [eMp]; exact jj_up_at _ _ _
  have Jp := J.new (M' := Mp) (ko := 6255) ha (by omega) (fun x hx => by rw [eMp, jj_up_ne _ _ hx]) (by rw [hc]; exact (fun e => (by cases e)))
  obtain ⟨dq, ed⟩ : ∃ f, adu ad 6255 a = f := ⟨_, rfl⟩
  rw [ed] at Jp
  have yq : dq 6255 = a := by rw [← ed, adu_at]
  show jj G kX_init (d + 4) Q (rc - 1) (rs - 3) 80 [some (.ref ob), none] [.ref a, .ref ob] Mp
  refine jj_dup (pc := 80) kX_init_d80 rfl ?_
  refine jj_aload_n (pc := 81) kX_init_d81 rfl ?_
  refine jj_getf (pc := 82) kX_init_d82 (kfX_desk hG) hp rfl ?_
  refine jj_callI (pc := 85) (b := a) (As := [.ref (ad 6247)]) kX_init_d85 (kvX_F_init hG) rfl rfl rfl (Nat.le_of_ble_eq_true rfl) (Nat.le_of_ble_eq_true rfl) (jj_bare0 rfl) ?_
  refine f_init (p := 13) (hp := by omega) hG (ko := 6255) hc Jp yq (Or.inr rfl) (by omega) (fun k hk => by rcases hk with h | h <;> omega) (by omega) (by omega) (fun Mn adn rcn rsn Jn gn cn  fn rcl rsl => ?_)
  have us : ∀ x, M x ≠ none → Mn x = M x := fun x hx => (fn x (fun e => hx (by rw [e]; exact ha)) (by rw [kp x hx]; exact hx)).trans (kp x hx)
  have hq := (us ob (by rw [hob]; exact (fun e => (by cases e)))).trans hob
  have ag : ∀ k, k = 6244 ∨ k = 6245 ∨ k = 6246 ∨ k = 6265 ∨ k = 6274 ∨ (5730 ≤ k ∧ k < 6244) ∨ k = 6247 ∨ k < 26 ∨ (6275 ≤ k ∧ k < 6279) ∨ k = 6248 ∨ (34 ≤ k ∧ k < 1094) ∨ (6249 ≤ k ∧ k < 6253) ∨ k = 6253 ∨ (1094 ≤ k ∧ k < 1618) ∨ k = 6254 → adn k = ad k := fun k hk => by rw [gn k (Or.inl hk), ← ed, adu_ne _ (by omega)]
  have y : adn 6255 = a := (gn _ (Or.inr rfl)).trans yq
  have eon : adn 6244 = ob := (ag 6244 (by omega)).trans eo
  show jj G kX_init (d + 4) Q rcn rsn 88 [some (.ref ob), none] [.ref a, .ref ob] Mn
  refine jj_putF (pc := 88) kX_init_d88 (kpX_fraction hG) rfl hq (by rfl) rfl ?_
  refine jn_gen (fun M119 hM120 => ?_)
  have h121 : M119 ob = some (.inl nX, [.ref (ad 6245), .ref (ad 6246), .ref (ad 6265), .ref (ad 6247), .ref (ad 6248), .ref (ad 6253), .ref a, .null, .int (nI (0))]) := by rw [hM120]; exact jj_up_at _ _ _
  have kk : ∀ k, k = 6244 ∨ k = 6245 ∨ k = 6246 ∨ k = 6265 ∨ k = 6274 ∨ (5730 ≤ k ∧ k < 6244) ∨ k = 6247 ∨ k < 26 ∨ (6275 ≤ k ∧ k < 6279) ∨ k = 6248 ∨ (34 ≤ k ∧ k < 1094) ∨ (6249 ≤ k ∧ k < 6253) ∨ k = 6253 ∨ (1094 ≤ k ∧ k < 1618) ∨ k = 6254 → k ≠ 6244 → M119 (ad k) = M (ad k) := fun k hk hn => by
    rw [hM120, jj_up_ne _ _ (fun e => hn (inj k 6244 hk (by omega) (e.trans eo.symm))), us _ (J.1.1 k hk)]
  have J2 := Jn.put (M' := M119) (ko := 6244) (by omega) (by omega) (fun x hx => by rw [hM120, jj_up_ne _ _ (by rw [← eon]; exact hx)]) (by rw [eon, h121]; exact (fun e => (by cases e)))
  show jj G kX_init (d + 4) Q rcn rsn 91 [some (.ref ob), none] [] M119
  exact k M119 adn _ _ ⟨J2.weak (fun k hk => by omega), eon, by rw [ag 6245 (by omega), ag 6246 (by omega), ag 6265 (by omega), ag 6247 (by omega), ag 6248 (by omega), ag 6253 (by omega), y]; exact h121, fun x h1 h2 => ((show M119 x = Mn x by rw [hM120, jj_up_ne _ _ h1]).trans (us x (by rw [fr x h1 h2]; exact h2))).trans (fr x h1 h2), (by rw [ag 6245 (by omega), kk 6245 (by omega) (by omega), h6245]), (by rw [ag 6246 (by omega), kk 6246 (by omega) (by omega), h6246]), (by rw [ag 6265 (by omega), kk 6265 (by omega) (by omega), h6265, ag (2 * (2865 + 256)) (by omega), ag 6274 (by omega)]), (by
      rw [ag 6274 (by omega), kk 6274 (by omega) (by omega), h6274]
      refine congrArg some (congrArg (Prod.mk _) (List.map_congr_left (fun l hl => ?_)))
      have hl2 := List.mem_range.mp hl
      rw [ag (2 * (2865 + l)) (by omega)]), (by rw [ag 6247 (by omega), kk 6247 (by omega) (by omega), h6247, ag 6276 (by omega), ag 6275 (by omega), ag 14 (by omega), ag 16 (by omega), ag 18 (by omega), ag 20 (by omega), ag 22 (by omega), ag 24 (by omega)]), (by rw [ag 6276 (by omega), kk 6276 (by omega) (by omega), h6276, ag 0 (by omega), ag 2 (by omega), ag 6277 (by omega), ag 6278 (by omega)]), (by rw [ag 6277 (by omega), kk 6277 (by omega) (by omega), h6277]), (by rw [ag 6278 (by omega), kk 6278 (by omega) (by omega), h6278]), (by rw [ag 6275 (by omega), kk 6275 (by omega) (by omega), h6275, ag 4 (by omega), ag 6 (by omega), ag 8 (by omega), ag 10 (by omega), ag 12 (by omega), ag 6276 (by omega)]), (by rw [ag 6248 (by omega), kk 6248 (by omega) (by omega), h6248, ag 6249 (by omega), ag 6250 (by omega), ag 6251 (by omega), ag 66 (by omega), ag 6252 (by omega), ag 68 (by omega), ag 6247 (by omega)]), (by
      rw [ag 6249 (by omega), kk 6249 (by omega) (by omega), h6249]
      refine congrArg some (congrArg (Prod.mk _) (List.map_congr_left (fun l hl => ?_)))
      have hl2 := List.mem_range.mp hl
      rw [ag (2 * (17 + l)) (by omega)]), (by rw [ag 6250 (by omega), kk 6250 (by omega) (by omega), h6250]), (by rw [ag 6251 (by omega), kk 6251 (by omega) (by omega), h6251]), (by
      rw [ag 6252 (by omega), kk 6252 (by omega) (by omega), h6252]
      refine congrArg some (congrArg (Prod.mk _) (List.map_congr_left (fun l hl => ?_)))
      have hl2 := List.mem_range.mp hl
      rw [ag (2 * (35 + l)) (by omega)]), (by rw [ag 6253 (by omega), kk 6253 (by omega) (by omega), h6253, ag 6254 (by omega), ag 1094 (by omega), ag 1096 (by omega), ag 1098 (by omega), ag 1100 (by omega), ag 1102 (by omega), ag 1104 (by omega), ag 6247 (by omega)]), (by
      rw [ag 6254 (by omega), kk 6254 (by omega) (by omega), h6254]
      refine congrArg some (congrArg (Prod.mk _) (List.map_congr_left (fun l hl => ?_)))
      have hl2 := List.mem_range.mp hl
      rw [ag (2 * (553 + l)) (by omega)]), (by rw [y, hM120, jj_up_ne _ _ na, cn, ag 6247 (by omega)]), (by rw [ag 6245 (by omega)]; exact n6245), (by rw [ag 6246 (by omega)]; exact n6246)⟩ (by omega) (by omega)
theorem x_s8 (hG : kG G) (hS : XS7 M0 M ob ad) (hrc : 5 ≤ rc) (hrs : 513 ≤ rs) (k : ∀ (M' : mheap) (ad' : Nat → Nat) (rc' rs' : Nat), XS8 M0 M' ob ad' → rc ≤ rc' + 5 → rs ≤ rs' + 513 → jj G kX_init (d + 4) Q rc' rs' 106 [some (.ref ob), none] [] M') : jj G kX_init (d + 4) Q rc rs 91 [some (.ref ob), none] [] M := by
  obtain ⟨J, eo, hob, fr, h6245, h6246, h6265, h6274, h6247, h6276, h6277, h6278, h6275, h6248, h6249, h6250, h6251, h6252, h6253, h6254, h6255, n6245, n6246⟩ := hS
  have inj := J.1.2
  refine jj_aload_n (pc := 91) kX_init_d91 rfl ?_
  refine jj_new (pc := 92) kX_init_d92 (knX_F hG) (by omega) (show 3 ≤ _ by omega) (fun a ha => ?_)
  refine jn_gen (fun Mp eMp => ?_)
  have na : a ≠ ob := fun e => by rw [e, hob] at ha; cases ha
  have kp : ∀ x, M x ≠ none → Mp x = M x := fun x hx => by rw [eMp, jj_up_ne _ _ (fun e => hx (by rw [e]; exact ha))]
  have hp := (kp ob (by rw [hob]; exact (fun e => (by cases e)))).trans hob
  have hc : Mp a = some (.inl nF, [.null, .null, .null]) := by rw [eMp]; exact jj_up_at _ _ _
  have Jp := J.new (M' := Mp) (ko := 6256) ha (by omega) (fun x hx => by rw [eMp, jj_up_ne _ _ hx]) (by rw [hc]; exact (fun e => (by cases e)))
  obtain ⟨dq, ed⟩ : ∃ f, adu ad 6256 a = f := ⟨_, rfl⟩
  rw [ed] at Jp
  have yq : dq 6256 = a := by rw [← ed, adu_at]
  show jj G kX_init (d + 4) Q (rc - 1) (rs - 3) 95 [some (.ref ob), none] [.ref a, .ref ob] Mp
  refine jj_dup (pc := 95) kX_init_d95 rfl ?_
  refine jj_aload_n (pc := 96) kX_init_d96 rfl ?_
  refine jj_getf (pc := 97) kX_init_d97 (kfX_desk hG) hp rfl ?_
  refine jj_callI (pc := 100) (b := a) (As := [.ref (ad 6247)]) kX_init_d100 (kvX_F_init hG) rfl rfl rfl (Nat.le_of_ble_eq_true rfl) (Nat.le_of_ble_eq_true rfl) (jj_bare0 rfl) ?_
  refine f_init (p := 15) (hp := by omega) hG (ko := 6256) hc Jp yq (Or.inr rfl) (by omega) (fun k hk => by rcases hk with h | h <;> omega) (by omega) (by omega) (fun Mn adn rcn rsn Jn gn cn  fn rcl rsl => ?_)
  have us : ∀ x, M x ≠ none → Mn x = M x := fun x hx => (fn x (fun e => hx (by rw [e]; exact ha)) (by rw [kp x hx]; exact hx)).trans (kp x hx)
  have hq := (us ob (by rw [hob]; exact (fun e => (by cases e)))).trans hob
  have ag : ∀ k, k = 6244 ∨ k = 6245 ∨ k = 6246 ∨ k = 6265 ∨ k = 6274 ∨ (5730 ≤ k ∧ k < 6244) ∨ k = 6247 ∨ k < 26 ∨ (6275 ≤ k ∧ k < 6279) ∨ k = 6248 ∨ (34 ≤ k ∧ k < 1094) ∨ (6249 ≤ k ∧ k < 6253) ∨ k = 6253 ∨ (1094 ≤ k ∧ k < 1618) ∨ k = 6254 ∨ k = 6255 ∨ (26 ≤ k ∧ k < 30) → adn k = ad k := fun k hk => by rw [gn k (Or.inl hk), ← ed, adu_ne _ (by omega)]
  have y : adn 6256 = a := (gn _ (Or.inr rfl)).trans yq
  have eon : adn 6244 = ob := (ag 6244 (by omega)).trans eo
  show jj G kX_init (d + 4) Q rcn rsn 103 [some (.ref ob), none] [.ref a, .ref ob] Mn
  refine jj_putF (pc := 103) kX_init_d103 (kpX_shown hG) rfl hq (by rfl) rfl ?_
  refine jn_gen (fun M122 hM123 => ?_)
  have h124 : M122 ob = some (.inl nX, [.ref (ad 6245), .ref (ad 6246), .ref (ad 6265), .ref (ad 6247), .ref (ad 6248), .ref (ad 6253), .ref (ad 6255), .ref a, .int (nI (0))]) := by rw [hM123]; exact jj_up_at _ _ _
  have kk : ∀ k, k = 6244 ∨ k = 6245 ∨ k = 6246 ∨ k = 6265 ∨ k = 6274 ∨ (5730 ≤ k ∧ k < 6244) ∨ k = 6247 ∨ k < 26 ∨ (6275 ≤ k ∧ k < 6279) ∨ k = 6248 ∨ (34 ≤ k ∧ k < 1094) ∨ (6249 ≤ k ∧ k < 6253) ∨ k = 6253 ∨ (1094 ≤ k ∧ k < 1618) ∨ k = 6254 ∨ k = 6255 ∨ (26 ≤ k ∧ k < 30) → k ≠ 6244 → M122 (ad k) = M (ad k) := fun k hk hn => by
    rw [hM123, jj_up_ne _ _ (fun e => hn (inj k 6244 hk (by omega) (e.trans eo.symm))), us _ (J.1.1 k hk)]
  have J2 := Jn.put (M' := M122) (ko := 6244) (by omega) (by omega) (fun x hx => by rw [hM123, jj_up_ne _ _ (by rw [← eon]; exact hx)]) (by rw [eon, h124]; exact (fun e => (by cases e)))
  show jj G kX_init (d + 4) Q rcn rsn 106 [some (.ref ob), none] [] M122
  exact k M122 adn _ _ ⟨J2.weak (fun k hk => by omega), eon, by rw [ag 6245 (by omega), ag 6246 (by omega), ag 6265 (by omega), ag 6247 (by omega), ag 6248 (by omega), ag 6253 (by omega), ag 6255 (by omega), y]; exact h124, fun x h1 h2 => ((show M122 x = Mn x by rw [hM123, jj_up_ne _ _ h1]).trans (us x (by rw [fr x h1 h2]; exact h2))).trans (fr x h1 h2), (by rw [ag 6245 (by omega), kk 6245 (by omega) (by omega), h6245]), (by rw [ag 6246 (by omega), kk 6246 (by omega) (by omega), h6246]), (by rw [ag 6265 (by omega), kk 6265 (by omega) (by omega), h6265, ag (2 * (2865 + 256)) (by omega), ag 6274 (by omega)]), (by
      rw [ag 6274 (by omega), kk 6274 (by omega) (by omega), h6274]
      refine congrArg some (congrArg (Prod.mk _) (List.map_congr_left (fun l hl => ?_)))
      have hl2 := List.mem_range.mp hl
      rw [ag (2 * (2865 + l)) (by omega)]), (by rw [ag 6247 (by omega), kk 6247 (by omega) (by omega), h6247, ag 6276 (by omega), ag 6275 (by omega), ag 14 (by omega), ag 16 (by omega), ag 18 (by omega), ag 20 (by omega), ag 22 (by omega), ag 24 (by omega)]), (by rw [ag 6276 (by omega), kk 6276 (by omega) (by omega), h6276, ag 0 (by omega), ag 2 (by omega), ag 6277 (by omega), ag 6278 (by omega)]), (by rw [ag 6277 (by omega), kk 6277 (by omega) (by omega), h6277]), (by rw [ag 6278 (by omega), kk 6278 (by omega) (by omega), h6278]), (by rw [ag 6275 (by omega), kk 6275 (by omega) (by omega), h6275, ag 4 (by omega), ag 6 (by omega), ag 8 (by omega), ag 10 (by omega), ag 12 (by omega), ag 6276 (by omega)]), (by rw [ag 6248 (by omega), kk 6248 (by omega) (by omega), h6248, ag 6249 (by omega), ag 6250 (by omega), ag 6251 (by omega), ag 66 (by omega), ag 6252 (by omega), ag 68 (by omega), ag 6247 (by omega)]), (by
      rw [ag 6249 (by omega), kk 6249 (by omega) (by omega), h6249]
      refine congrArg some (congrArg (Prod.mk _) (List.map_congr_left (fun l hl => ?_)))
      have hl2 := List.mem_range.mp hl
      rw [ag (2 * (17 + l)) (by omega)]), (by rw [ag 6250 (by omega), kk 6250 (by omega) (by omega), h6250]), (by rw [ag 6251 (by omega), kk 6251 (by omega) (by omega), h6251]), (by
      rw [ag 6252 (by omega), kk 6252 (by omega) (by omega), h6252]
      refine congrArg some (congrArg (Prod.mk _) (List.map_congr_left (fun l hl => ?_)))
      have hl2 := List.mem_range.mp hl
      rw [ag (2 * (35 + l)) (by omega)]), (by rw [ag 6253 (by omega), kk 6253 (by omega) (by omega), h6253, ag 6254 (by omega), ag 1094 (by omega), ag 1096 (by omega), ag 1098 (by omega), ag 1100 (by omega), ag 1102 (by omega), ag 1104 (by omega), ag 6247 (by omega)]), (by
      rw [ag 6254 (by omega), kk 6254 (by omega) (by omega), h6254]
      refine congrArg some (congrArg (Prod.mk _) (List.map_congr_left (fun l hl => ?_)))
      have hl2 := List.mem_range.mp hl
      rw [ag (2 * (553 + l)) (by omega)]), (by rw [ag 6255 (by omega), kk 6255 (by omega) (by omega), h6255, ag (2 * 13) (by omega), ag (2 * (13 + 1)) (by omega), ag 6247 (by omega)]), (by rw [y, hM123, jj_up_ne _ _ na, cn, ag 6247 (by omega)]), (by rw [ag 6245 (by omega)]; exact n6245), (by rw [ag 6246 (by omega)]; exact n6246)⟩ (by omega) (by omega)
theorem x_s9 (hG : kG G) (hS : XS8 M0 M ob ad) (hrc : 0 ≤ rc) (hrs : 0 ≤ rs) (k : ∀ (M' : mheap) (ad' : Nat → Nat) (rc' rs' : Nat), XS9 M0 M' ob ad' → rc ≤ rc' + 0 → rs ≤ rs' + 0 → jj G kX_init (d + 4) Q rc' rs' 111 [some (.ref ob), none] [] M') : jj G kX_init (d + 4) Q rc rs 106 [some (.ref ob), none] [] M := by
  obtain ⟨J, eo, hob, fr, h6245, h6246, h6265, h6274, h6247, h6276, h6277, h6278, h6275, h6248, h6249, h6250, h6251, h6252, h6253, h6254, h6255, h6256, n6245, n6246⟩ := hS
  have inj := J.1.2
  refine jj_aload_n (pc := 106) kX_init_d106 rfl ?_
  refine jj_iconst (pc := 107) (v := (-1)) kX_init_d107 (by decide) ?_
  refine jj_putf (pc := 108) kX_init_d108 (kpX_shownCell hG) hob (by rfl) rfl ?_
  refine jn_gen (fun M125 hM126 => ?_)
  have h127 : M125 ob = some (.inl nX, [.ref (ad 6245), .ref (ad 6246), .ref (ad 6265), .ref (ad 6247), .ref (ad 6248), .ref (ad 6253), .ref (ad 6255), .ref (ad 6256), .int (-1)]) := by rw [hM126]; exact jj_up_at _ _ _
  have ag : ∀ k, k = 6244 ∨ k = 6245 ∨ k = 6246 ∨ k = 6265 ∨ k = 6274 ∨ (5730 ≤ k ∧ k < 6244) ∨ k = 6247 ∨ k < 26 ∨ (6275 ≤ k ∧ k < 6279) ∨ k = 6248 ∨ (34 ≤ k ∧ k < 1094) ∨ (6249 ≤ k ∧ k < 6253) ∨ k = 6253 ∨ (1094 ≤ k ∧ k < 1618) ∨ k = 6254 ∨ k = 6255 ∨ (26 ≤ k ∧ k < 30) ∨ k = 6256 ∨ (30 ≤ k ∧ k < 34) → ad k = ad k := fun _ _ => rfl
  have kk : ∀ k, k = 6244 ∨ k = 6245 ∨ k = 6246 ∨ k = 6265 ∨ k = 6274 ∨ (5730 ≤ k ∧ k < 6244) ∨ k = 6247 ∨ k < 26 ∨ (6275 ≤ k ∧ k < 6279) ∨ k = 6248 ∨ (34 ≤ k ∧ k < 1094) ∨ (6249 ≤ k ∧ k < 6253) ∨ k = 6253 ∨ (1094 ≤ k ∧ k < 1618) ∨ k = 6254 ∨ k = 6255 ∨ (26 ≤ k ∧ k < 30) ∨ k = 6256 ∨ (30 ≤ k ∧ k < 34) → k ≠ 6244 → M125 (ad k) = M (ad k) := fun k hk hn => by
    rw [hM126, jj_up_ne _ _ (fun e => hn (inj k 6244 hk (by omega) (e.trans eo.symm)))]
  have J2 := J.put (M' := M125) (ko := 6244) (by omega) (by omega) (fun x hx => by rw [hM126, jj_up_ne _ _ (by rw [← eo]; exact hx)]) (by rw [eo, h127]; exact (fun e => (by cases e)))
  show jj G kX_init (d + 4) Q rc rs 111 [some (.ref ob), none] [] M125
  exact k M125 ad rc rs ⟨J2, eo, h127, fun x h1 h2 => (show M125 x = M x by rw [hM126, jj_up_ne _ _ h1]).trans (fr x h1 h2), ((kk 6245 (by omega) (by omega)).trans h6245), ((kk 6246 (by omega) (by omega)).trans h6246), ((kk 6265 (by omega) (by omega)).trans h6265), ((kk 6274 (by omega) (by omega)).trans h6274), ((kk 6247 (by omega) (by omega)).trans h6247), ((kk 6276 (by omega) (by omega)).trans h6276), ((kk 6277 (by omega) (by omega)).trans h6277), ((kk 6278 (by omega) (by omega)).trans h6278), ((kk 6275 (by omega) (by omega)).trans h6275), ((kk 6248 (by omega) (by omega)).trans h6248), ((kk 6249 (by omega) (by omega)).trans h6249), ((kk 6250 (by omega) (by omega)).trans h6250), ((kk 6251 (by omega) (by omega)).trans h6251), ((kk 6252 (by omega) (by omega)).trans h6252), ((kk 6253 (by omega) (by omega)).trans h6253), ((kk 6254 (by omega) (by omega)).trans h6254), ((kk 6255 (by omega) (by omega)).trans h6255), ((kk 6256 (by omega) (by omega)).trans h6256), n6245, n6246⟩ (by omega) (by omega)
end I8
