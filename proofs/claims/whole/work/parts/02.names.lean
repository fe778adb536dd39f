/-! NAMES: our classes, their fields, the methods, the words. Written by wip/whole/gen/names.py -/
section
/-- words that stay true under warmer tables -/
def jm_good : Cond → Bool
  | .methodLinkNest .. => true
  | .declares _ => true
  | .castable .. => true
  | .arrayOver (.object _) => true
  | w => goodWord w
def jm_ws : List Cond := lw_tbl.filter jm_good
theorem jm_in {w : Cond} (h1 : w ∈ tables_1) (h2 : jm_good w = true) : w ∈ jm_ws := List.mem_filter.mpr ⟨List.mem_append_right _ h1, h2⟩
theorem jm_inP {w : Cond} (h1 : w ∈ k2_sels lw_privs) (h2 : jm_good w = true) : w ∈ jm_ws := List.mem_filter.mpr ⟨List.mem_append_left _ h1, h2⟩
theorem jm_word {args a' : Array Value} {s U : State} (hW : s.WarmedH U.vm) {w : Cond} (hg : jm_good w = true) (h : w.before args s = true) : w.before a' U = true := by
  cases w with
  | methodLinkNest a i x hh => exact va_Nw.use rfl (va_Nw.warmM hW (va_Nw.of rfl h))
  | declares x => exact va_Nw.use rfl (va_Nw.warmD hW (va_Nw.of rfl h))
  | castable c t => exact va_Nw.use rfl (va_Nw.warmC hW (va_Nw.of rfl h))
  | arrayOver ty =>
    cases ty with
    | object C => exact va_AO.use (va_AO.moved hW.alike (va_AO.of h))
    | _ => exact word_at hW (good_of_word hg) h
  | _ => exact word_at hW (good_of_word hg) h
def jm_F0 : u_T := fun k => match k with
  | 0 => ("BargainTree", "agents", "[LBargainTree$Agent;", true)
  | 1 => ("BargainTree", "agentCount", "I", false)
  | 2 => ("BargainTree", "pairs", "[LBargainTree$Pair;", true)
  | 3 => ("BargainTree", "pairCount", "I", false)
  | 4 => ("BargainTree", "letters", "[LBargainTree$Letter;", true)
  | 5 => ("BargainTree", "letterCount", "I", false)
  | 6 => ("BargainTree", "tried", "[I", true)
  | 7 => ("BargainTree", "open", "Z", false)
  | _ => ("BargainTree", "tablesMade", "I", false)
def jm_Y0 : Nat → FieldType := fun k => match k with
  | 0 => (.array (.object "BargainTree$Agent"))
  | 1 => .int
  | 2 => (.array (.object "BargainTree$Pair"))
  | 3 => .int
  | 4 => (.array (.object "BargainTree$Letter"))
  | 5 => .int
  | 6 => (.array .int)
  | 7 => .boolean
  | _ => .int
def jm_V0 : Nat → Value := fun k => match k with
  | 0 => .null
  | 1 => .int 0
  | 2 => .null
  | 3 => .int 0
  | 4 => .null
  | 5 => .int 0
  | 6 => .null
  | 7 => .int 0
  | _ => .int 0
def jm_F1 : u_T := fun k => match k with
  | 0 => ("BargainTree$Agent", "number", "I", true)
  | 1 => ("BargainTree$Agent", "values", "I", true)
  | 2 => ("BargainTree$Agent", "ownCosts", "[I", true)
  | 3 => ("BargainTree$Agent", "children", "[LBargainTree$Child;", true)
  | 4 => ("BargainTree$Agent", "childCount", "I", false)
  | 5 => ("BargainTree$Agent", "neighbours", "I", false)
  | 6 => ("BargainTree$Agent", "part", "LBargainTree$Part;", false)
  | 7 => ("BargainTree$Agent", "stage", "LBargainTree$Stage;", false)
  | 8 => ("BargainTree$Agent", "mask", "I", false)
  | 9 => ("BargainTree$Agent", "ancestors", "I", false)
  | 10 => ("BargainTree$Agent", "parent", "I", false)
  | 11 => ("BargainTree$Agent", "awaited", "I", false)
  | 12 => ("BargainTree$Agent", "separator", "I", false)
  | 13 => ("BargainTree$Agent", "tooWide", "Z", false)
  | 14 => ("BargainTree$Agent", "table", "[I", false)
  | 15 => ("BargainTree$Agent", "tableRun", "I", false)
  | 16 => ("BargainTree$Agent", "choice", "[I", false)
  | _ => ("BargainTree$Agent", "settledRun", "I", false)
def jm_Y1 : Nat → FieldType := fun k => match k with
  | 0 => .int
  | 1 => .int
  | 2 => (.array .int)
  | 3 => (.array (.object "BargainTree$Child"))
  | 4 => .int
  | 5 => .int
  | 6 => (.object "BargainTree$Part")
  | 7 => (.object "BargainTree$Stage")
  | 8 => .int
  | 9 => .int
  | 10 => .int
  | 11 => .int
  | 12 => .int
  | 13 => .boolean
  | 14 => (.array .int)
  | 15 => .int
  | 16 => (.array .int)
  | _ => .int
def jm_V1 : Nat → Value := fun k => match k with
  | 0 => .int 0
  | 1 => .int 0
  | 2 => .null
  | 3 => .null
  | 4 => .int 0
  | 5 => .int 0
  | 6 => .null
  | 7 => .null
  | 8 => .int 0
  | 9 => .int 0
  | 10 => .int 0
  | 11 => .int 0
  | 12 => .int 0
  | 13 => .int 0
  | 14 => .null
  | 15 => .int 0
  | 16 => .null
  | _ => .int 0
def jm_F2 : u_T := fun k => match k with
  | 0 => ("BargainTree$Part", "root", "LBargainTree$Agent;", true)
  | 1 => ("BargainTree$Part", "run", "I", false)
  | _ => ("BargainTree$Part", "noneRun", "I", false)
def jm_Y2 : Nat → FieldType := fun k => match k with
  | 0 => (.object "BargainTree$Agent")
  | 1 => .int
  | _ => .int
def jm_V2 : Nat → Value := fun k => match k with
  | 0 => .null
  | 1 => .int 0
  | _ => .int 0
def jm_F3 : u_T := fun k => match k with
  | 0 => ("BargainTree$Child", "agent", "LBargainTree$Agent;", true)
  | 1 => ("BargainTree$Child", "run", "I", false)
  | _ => ("BargainTree$Child", "table", "[I", false)
def jm_Y3 : Nat → FieldType := fun k => match k with
  | 0 => (.object "BargainTree$Agent")
  | 1 => .int
  | _ => (.array .int)
def jm_V3 : Nat → Value := fun k => match k with
  | 0 => .null
  | 1 => .int 0
  | _ => .null
def jm_F4 : u_T := fun k => match k with
  | 0 => ("BargainTree$Pair", "low", "I", true)
  | 1 => ("BargainTree$Pair", "high", "I", true)
  | _ => ("BargainTree$Pair", "costs", "[I", true)
def jm_Y4 : Nat → FieldType := fun k => match k with
  | 0 => .int
  | 1 => .int
  | _ => (.array .int)
def jm_V4 : Nat → Value := fun k => match k with
  | 0 => .int 0
  | 1 => .int 0
  | _ => .null
def jm_F5 : u_T := fun k => match k with
  | 0 => ("BargainTree$Letter", "kind", "I", true)
  | 1 => ("BargainTree$Letter", "from", "I", true)
  | 2 => ("BargainTree$Letter", "to", "I", true)
  | 3 => ("BargainTree$Letter", "stamp", "I", true)
  | _ => ("BargainTree$Letter", "content", "[I", true)
def jm_Y5 : Nat → FieldType := fun k => match k with
  | 0 => .int
  | 1 => .int
  | 2 => .int
  | 3 => .int
  | _ => (.array .int)
def jm_V5 : Nat → Value := fun k => match k with
  | 0 => .int 0
  | 1 => .int 0
  | 2 => .int 0
  | 3 => .int 0
  | _ => .null
def jm_F6 : u_T := fun k => match k with
  | 0 => ("BargainTreeModel", "thrown", "I", false)
  | 1 => ("BargainTreeModel", "agents", "I", false)
  | 2 => ("BargainTreeModel", "started", "Z", false)
  | 3 => ("BargainTreeModel", "size", "[I", true)
  | 4 => ("BargainTreeModel", "ownCost", "[I", true)
  | 5 => ("BargainTreeModel", "pairs", "I", false)
  | 6 => ("BargainTreeModel", "first", "[I", true)
  | 7 => ("BargainTreeModel", "second", "[I", true)
  | 8 => ("BargainTreeModel", "pairCost", "[I", true)
  | 9 => ("BargainTreeModel", "neighbours", "[I", true)
  | 10 => ("BargainTreeModel", "part", "[I", true)
  | 11 => ("BargainTreeModel", "root", "[I", true)
  | 12 => ("BargainTreeModel", "run", "[I", true)
  | 13 => ("BargainTreeModel", "had", "[Z", true)
  | 14 => ("BargainTreeModel", "through", "[Z", true)
  | 15 => ("BargainTreeModel", "wide", "[Z", true)
  | 16 => ("BargainTreeModel", "parents", "[I", true)
  | 17 => ("BargainTreeModel", "ancestors", "[I", true)
  | 18 => ("BargainTreeModel", "masks", "[I", true)
  | 19 => ("BargainTreeModel", "waits", "[I", true)
  | 20 => ("BargainTreeModel", "children", "[I", true)
  | 21 => ("BargainTreeModel", "childCount", "[I", true)
  | 22 => ("BargainTreeModel", "separators", "[I", true)
  | 23 => ("BargainTreeModel", "tableRun", "[I", true)
  | 24 => ("BargainTreeModel", "tableMask", "[I", true)
  | 25 => ("BargainTreeModel", "tableCount", "[I", true)
  | 26 => ("BargainTreeModel", "cells", "[I", true)
  | 27 => ("BargainTreeModel", "made", "I", false)
  | 28 => ("BargainTreeModel", "settled", "[I", true)
  | 29 => ("BargainTreeModel", "noneRun", "[I", true)
  | 30 => ("BargainTreeModel", "chosen", "[I", true)
  | 31 => ("BargainTreeModel", "knows", "[I", true)
  | 32 => ("BargainTreeModel", "now", "[I", true)
  | 33 => ("BargainTreeModel", "least", "I", false)
  | 34 => ("BargainTreeModel", "letters", "I", false)
  | 35 => ("BargainTreeModel", "kind", "[I", true)
  | 36 => ("BargainTreeModel", "from", "[I", true)
  | 37 => ("BargainTreeModel", "to", "[I", true)
  | 38 => ("BargainTreeModel", "word", "[I", true)
  | 39 => ("BargainTreeModel", "many", "[I", true)
  | 40 => ("BargainTreeModel", "letterMask", "[I", true)
  | _ => ("BargainTreeModel", "entries", "[I", true)
def jm_Y6 : Nat → FieldType := fun k => match k with
  | 0 => .int
  | 1 => .int
  | 2 => .boolean
  | 3 => (.array .int)
  | 4 => (.array .int)
  | 5 => .int
  | 6 => (.array .int)
  | 7 => (.array .int)
  | 8 => (.array .int)
  | 9 => (.array .int)
  | 10 => (.array .int)
  | 11 => (.array .int)
  | 12 => (.array .int)
  | 13 => (.array .boolean)
  | 14 => (.array .boolean)
  | 15 => (.array .boolean)
  | 16 => (.array .int)
  | 17 => (.array .int)
  | 18 => (.array .int)
  | 19 => (.array .int)
  | 20 => (.array .int)
  | 21 => (.array .int)
  | 22 => (.array .int)
  | 23 => (.array .int)
  | 24 => (.array .int)
  | 25 => (.array .int)
  | 26 => (.array .int)
  | 27 => .int
  | 28 => (.array .int)
  | 29 => (.array .int)
  | 30 => (.array .int)
  | 31 => (.array .int)
  | 32 => (.array .int)
  | 33 => .int
  | 34 => .int
  | 35 => (.array .int)
  | 36 => (.array .int)
  | 37 => (.array .int)
  | 38 => (.array .int)
  | 39 => (.array .int)
  | 40 => (.array .int)
  | _ => (.array .int)
def jm_V6 : Nat → Value := fun k => match k with
  | 0 => .int 0
  | 1 => .int 0
  | 2 => .int 0
  | 3 => .null
  | 4 => .null
  | 5 => .int 0
  | 6 => .null
  | 7 => .null
  | 8 => .null
  | 9 => .null
  | 10 => .null
  | 11 => .null
  | 12 => .null
  | 13 => .null
  | 14 => .null
  | 15 => .null
  | 16 => .null
  | 17 => .null
  | 18 => .null
  | 19 => .null
  | 20 => .null
  | 21 => .null
  | 22 => .null
  | 23 => .null
  | 24 => .null
  | 25 => .null
  | 26 => .null
  | 27 => .int 0
  | 28 => .null
  | 29 => .null
  | 30 => .null
  | 31 => .null
  | 32 => .null
  | 33 => .int 0
  | 34 => .int 0
  | 35 => .null
  | 36 => .null
  | 37 => .null
  | 38 => .null
  | 39 => .null
  | 40 => .null
  | _ => .null
def jm_cl : List vw_C := [("BargainTree", jm_F0, 9), ("BargainTree$Agent", jm_F1, 18), ("BargainTree$Part", jm_F2, 3), ("BargainTree$Child", jm_F3, 3), ("BargainTree$Pair", jm_F4, 3), ("BargainTree$Letter", jm_F5, 5), ("BargainTreeModel", jm_F6, 42)]
theorem jm_cl_len : jm_cl.length ≤ 100 := by decide
theorem jm_lw0_0 : u_lay "BargainTree" jm_F0 0 ∈ jm_ws := jm_in (List.mem_of_getElem? (i := 42) (by decide +kernel)) (by decide +kernel)
theorem jm_lw0_1 : u_lay "BargainTree" jm_F0 1 ∈ jm_ws := jm_in (List.mem_of_getElem? (i := 44) (by decide +kernel)) (by decide +kernel)
theorem jm_lw0_2 : u_lay "BargainTree" jm_F0 2 ∈ jm_ws := jm_in (List.mem_of_getElem? (i := 46) (by decide +kernel)) (by decide +kernel)
theorem jm_lw0_3 : u_lay "BargainTree" jm_F0 3 ∈ jm_ws := jm_in (List.mem_of_getElem? (i := 48) (by decide +kernel)) (by decide +kernel)
theorem jm_lw0_4 : u_lay "BargainTree" jm_F0 4 ∈ jm_ws := jm_in (List.mem_of_getElem? (i := 50) (by decide +kernel)) (by decide +kernel)
theorem jm_lw0_5 : u_lay "BargainTree" jm_F0 5 ∈ jm_ws := jm_in (List.mem_of_getElem? (i := 52) (by decide +kernel)) (by decide +kernel)
theorem jm_lw0_6 : u_lay "BargainTree" jm_F0 6 ∈ jm_ws := jm_in (List.mem_of_getElem? (i := 54) (by decide +kernel)) (by decide +kernel)
theorem jm_lw0_7 : u_lay "BargainTree" jm_F0 7 ∈ jm_ws := jm_in (List.mem_of_getElem? (i := 56) (by decide +kernel)) (by decide +kernel)
theorem jm_lw0_8 : u_lay "BargainTree" jm_F0 8 ∈ jm_ws := jm_in (List.mem_of_getElem? (i := 58) (by decide +kernel)) (by decide +kernel)
theorem jm_lin0 : ∀ w ∈ u_ws "BargainTree" jm_F0 9, w ∈ jm_ws := by
  intro w hw
  obtain ⟨k, hk, rfl⟩ := List.mem_map.mp hw
  have hk := List.mem_range.mp hk
  match k, hk with
  | 0, _ => exact jm_lw0_0
  | 1, _ => exact jm_lw0_1
  | 2, _ => exact jm_lw0_2
  | 3, _ => exact jm_lw0_3
  | 4, _ => exact jm_lw0_4
  | 5, _ => exact jm_lw0_5
  | 6, _ => exact jm_lw0_6
  | 7, _ => exact jm_lw0_7
  | 8, _ => exact jm_lw0_8
  | n + 9, hk => exact absurd hk (by omega)
theorem jm_yok0 : ∀ k, k < 9 → parseFieldDescriptor (jm_F0 k).2.2.1 = some (jm_Y0 k) := by decide +kernel
theorem jm_nok0 : ∀ a, a < 9 → ∀ b, b < 9 → a ≠ b → (jm_F0 a).2.1 ≠ (jm_F0 b).2.1 := by decide +kernel
theorem jm_vok0 : ∀ j, j < 9 → defaultValue (jm_Y0 j) = jm_V0 j := by decide +kernel
theorem jm_lw1_0 : u_lay "BargainTree$Agent" jm_F1 0 ∈ jm_ws := jm_in (List.mem_of_getElem? (i := 260) (by decide +kernel)) (by decide +kernel)
theorem jm_lw1_1 : u_lay "BargainTree$Agent" jm_F1 1 ∈ jm_ws := jm_in (List.mem_of_getElem? (i := 262) (by decide +kernel)) (by decide +kernel)
theorem jm_lw1_2 : u_lay "BargainTree$Agent" jm_F1 2 ∈ jm_ws := jm_in (List.mem_of_getElem? (i := 264) (by decide +kernel)) (by decide +kernel)
theorem jm_lw1_3 : u_lay "BargainTree$Agent" jm_F1 3 ∈ jm_ws := jm_in (List.mem_of_getElem? (i := 266) (by decide +kernel)) (by decide +kernel)
theorem jm_lw1_4 : u_lay "BargainTree$Agent" jm_F1 4 ∈ jm_ws := jm_in (List.mem_of_getElem? (i := 268) (by decide +kernel)) (by decide +kernel)
theorem jm_lw1_5 : u_lay "BargainTree$Agent" jm_F1 5 ∈ jm_ws := jm_in (List.mem_of_getElem? (i := 270) (by decide +kernel)) (by decide +kernel)
theorem jm_lw1_6 : u_lay "BargainTree$Agent" jm_F1 6 ∈ jm_ws := jm_in (List.mem_of_getElem? (i := 272) (by decide +kernel)) (by decide +kernel)
theorem jm_lw1_7 : u_lay "BargainTree$Agent" jm_F1 7 ∈ jm_ws := jm_in (List.mem_of_getElem? (i := 274) (by decide +kernel)) (by decide +kernel)
theorem jm_lw1_8 : u_lay "BargainTree$Agent" jm_F1 8 ∈ jm_ws := jm_in (List.mem_of_getElem? (i := 276) (by decide +kernel)) (by decide +kernel)
theorem jm_lw1_9 : u_lay "BargainTree$Agent" jm_F1 9 ∈ jm_ws := jm_in (List.mem_of_getElem? (i := 278) (by decide +kernel)) (by decide +kernel)
theorem jm_lw1_10 : u_lay "BargainTree$Agent" jm_F1 10 ∈ jm_ws := jm_in (List.mem_of_getElem? (i := 280) (by decide +kernel)) (by decide +kernel)
theorem jm_lw1_11 : u_lay "BargainTree$Agent" jm_F1 11 ∈ jm_ws := jm_in (List.mem_of_getElem? (i := 282) (by decide +kernel)) (by decide +kernel)
theorem jm_lw1_12 : u_lay "BargainTree$Agent" jm_F1 12 ∈ jm_ws := jm_in (List.mem_of_getElem? (i := 284) (by decide +kernel)) (by decide +kernel)
theorem jm_lw1_13 : u_lay "BargainTree$Agent" jm_F1 13 ∈ jm_ws := jm_in (List.mem_of_getElem? (i := 286) (by decide +kernel)) (by decide +kernel)
theorem jm_lw1_14 : u_lay "BargainTree$Agent" jm_F1 14 ∈ jm_ws := jm_in (List.mem_of_getElem? (i := 288) (by decide +kernel)) (by decide +kernel)
theorem jm_lw1_15 : u_lay "BargainTree$Agent" jm_F1 15 ∈ jm_ws := jm_in (List.mem_of_getElem? (i := 290) (by decide +kernel)) (by decide +kernel)
theorem jm_lw1_16 : u_lay "BargainTree$Agent" jm_F1 16 ∈ jm_ws := jm_in (List.mem_of_getElem? (i := 292) (by decide +kernel)) (by decide +kernel)
theorem jm_lw1_17 : u_lay "BargainTree$Agent" jm_F1 17 ∈ jm_ws := jm_in (List.mem_of_getElem? (i := 294) (by decide +kernel)) (by decide +kernel)
theorem jm_lin1 : ∀ w ∈ u_ws "BargainTree$Agent" jm_F1 18, w ∈ jm_ws := by
  intro w hw
  obtain ⟨k, hk, rfl⟩ := List.mem_map.mp hw
  have hk := List.mem_range.mp hk
  match k, hk with
  | 0, _ => exact jm_lw1_0
  | 1, _ => exact jm_lw1_1
  | 2, _ => exact jm_lw1_2
  | 3, _ => exact jm_lw1_3
  | 4, _ => exact jm_lw1_4
  | 5, _ => exact jm_lw1_5
  | 6, _ => exact jm_lw1_6
  | 7, _ => exact jm_lw1_7
  | 8, _ => exact jm_lw1_8
  | 9, _ => exact jm_lw1_9
  | 10, _ => exact jm_lw1_10
  | 11, _ => exact jm_lw1_11
  | 12, _ => exact jm_lw1_12
  | 13, _ => exact jm_lw1_13
  | 14, _ => exact jm_lw1_14
  | 15, _ => exact jm_lw1_15
  | 16, _ => exact jm_lw1_16
  | 17, _ => exact jm_lw1_17
  | n + 18, hk => exact absurd hk (by omega)
theorem jm_yok1 : ∀ k, k < 18 → parseFieldDescriptor (jm_F1 k).2.2.1 = some (jm_Y1 k) := by decide +kernel
theorem jm_nok1 : ∀ a, a < 18 → ∀ b, b < 18 → a ≠ b → (jm_F1 a).2.1 ≠ (jm_F1 b).2.1 := by decide +kernel
theorem jm_vok1 : ∀ j, j < 18 → defaultValue (jm_Y1 j) = jm_V1 j := by decide +kernel
theorem jm_lw2_0 : u_lay "BargainTree$Part" jm_F2 0 ∈ jm_ws := jm_in (List.mem_of_getElem? (i := 408) (by decide +kernel)) (by decide +kernel)
theorem jm_lw2_1 : u_lay "BargainTree$Part" jm_F2 1 ∈ jm_ws := jm_in (List.mem_of_getElem? (i := 410) (by decide +kernel)) (by decide +kernel)
theorem jm_lw2_2 : u_lay "BargainTree$Part" jm_F2 2 ∈ jm_ws := jm_in (List.mem_of_getElem? (i := 412) (by decide +kernel)) (by decide +kernel)
theorem jm_lin2 : ∀ w ∈ u_ws "BargainTree$Part" jm_F2 3, w ∈ jm_ws := by
  intro w hw
  obtain ⟨k, hk, rfl⟩ := List.mem_map.mp hw
  have hk := List.mem_range.mp hk
  match k, hk with
  | 0, _ => exact jm_lw2_0
  | 1, _ => exact jm_lw2_1
  | 2, _ => exact jm_lw2_2
  | n + 3, hk => exact absurd hk (by omega)
theorem jm_yok2 : ∀ k, k < 3 → parseFieldDescriptor (jm_F2 k).2.2.1 = some (jm_Y2 k) := by decide +kernel
theorem jm_nok2 : ∀ a, a < 3 → ∀ b, b < 3 → a ≠ b → (jm_F2 a).2.1 ≠ (jm_F2 b).2.1 := by decide +kernel
theorem jm_vok2 : ∀ j, j < 3 → defaultValue (jm_Y2 j) = jm_V2 j := by decide +kernel
theorem jm_lw3_0 : u_lay "BargainTree$Child" jm_F3 0 ∈ jm_ws := jm_in (List.mem_of_getElem? (i := 438) (by decide +kernel)) (by decide +kernel)
theorem jm_lw3_1 : u_lay "BargainTree$Child" jm_F3 1 ∈ jm_ws := jm_in (List.mem_of_getElem? (i := 440) (by decide +kernel)) (by decide +kernel)
theorem jm_lw3_2 : u_lay "BargainTree$Child" jm_F3 2 ∈ jm_ws := jm_in (List.mem_of_getElem? (i := 442) (by decide +kernel)) (by decide +kernel)
theorem jm_lin3 : ∀ w ∈ u_ws "BargainTree$Child" jm_F3 3, w ∈ jm_ws := by
  intro w hw
  obtain ⟨k, hk, rfl⟩ := List.mem_map.mp hw
  have hk := List.mem_range.mp hk
  match k, hk with
  | 0, _ => exact jm_lw3_0
  | 1, _ => exact jm_lw3_1
  | 2, _ => exact jm_lw3_2
  | n + 3, hk => exact absurd hk (by omega)
theorem jm_yok3 : ∀ k, k < 3 → parseFieldDescriptor (jm_F3 k).2.2.1 = some (jm_Y3 k) := by decide +kernel
theorem jm_nok3 : ∀ a, a < 3 → ∀ b, b < 3 → a ≠ b → (jm_F3 a).2.1 ≠ (jm_F3 b).2.1 := by decide +kernel
theorem jm_vok3 : ∀ j, j < 3 → defaultValue (jm_Y3 j) = jm_V3 j := by decide +kernel
theorem jm_lw4_0 : u_lay "BargainTree$Pair" jm_F4 0 ∈ jm_ws := jm_in (List.mem_of_getElem? (i := 343) (by decide +kernel)) (by decide +kernel)
theorem jm_lw4_1 : u_lay "BargainTree$Pair" jm_F4 1 ∈ jm_ws := jm_in (List.mem_of_getElem? (i := 345) (by decide +kernel)) (by decide +kernel)
theorem jm_lw4_2 : u_lay "BargainTree$Pair" jm_F4 2 ∈ jm_ws := jm_in (List.mem_of_getElem? (i := 347) (by decide +kernel)) (by decide +kernel)
theorem jm_lin4 : ∀ w ∈ u_ws "BargainTree$Pair" jm_F4 3, w ∈ jm_ws := by
  intro w hw
  obtain ⟨k, hk, rfl⟩ := List.mem_map.mp hw
  have hk := List.mem_range.mp hk
  match k, hk with
  | 0, _ => exact jm_lw4_0
  | 1, _ => exact jm_lw4_1
  | 2, _ => exact jm_lw4_2
  | n + 3, hk => exact absurd hk (by omega)
theorem jm_yok4 : ∀ k, k < 3 → parseFieldDescriptor (jm_F4 k).2.2.1 = some (jm_Y4 k) := by decide +kernel
theorem jm_nok4 : ∀ a, a < 3 → ∀ b, b < 3 → a ≠ b → (jm_F4 a).2.1 ≠ (jm_F4 b).2.1 := by decide +kernel
theorem jm_vok4 : ∀ j, j < 3 → defaultValue (jm_Y4 j) = jm_V4 j := by decide +kernel
theorem jm_lw5_0 : u_lay "BargainTree$Letter" jm_F5 0 ∈ jm_ws := jm_in (List.mem_of_getElem? (i := 466) (by decide +kernel)) (by decide +kernel)
theorem jm_lw5_1 : u_lay "BargainTree$Letter" jm_F5 1 ∈ jm_ws := jm_in (List.mem_of_getElem? (i := 468) (by decide +kernel)) (by decide +kernel)
theorem jm_lw5_2 : u_lay "BargainTree$Letter" jm_F5 2 ∈ jm_ws := jm_in (List.mem_of_getElem? (i := 470) (by decide +kernel)) (by decide +kernel)
theorem jm_lw5_3 : u_lay "BargainTree$Letter" jm_F5 3 ∈ jm_ws := jm_in (List.mem_of_getElem? (i := 472) (by decide +kernel)) (by decide +kernel)
theorem jm_lw5_4 : u_lay "BargainTree$Letter" jm_F5 4 ∈ jm_ws := jm_in (List.mem_of_getElem? (i := 474) (by decide +kernel)) (by decide +kernel)
theorem jm_lin5 : ∀ w ∈ u_ws "BargainTree$Letter" jm_F5 5, w ∈ jm_ws := by
  intro w hw
  obtain ⟨k, hk, rfl⟩ := List.mem_map.mp hw
  have hk := List.mem_range.mp hk
  match k, hk with
  | 0, _ => exact jm_lw5_0
  | 1, _ => exact jm_lw5_1
  | 2, _ => exact jm_lw5_2
  | 3, _ => exact jm_lw5_3
  | 4, _ => exact jm_lw5_4
  | n + 5, hk => exact absurd hk (by omega)
theorem jm_yok5 : ∀ k, k < 5 → parseFieldDescriptor (jm_F5 k).2.2.1 = some (jm_Y5 k) := by decide +kernel
theorem jm_nok5 : ∀ a, a < 5 → ∀ b, b < 5 → a ≠ b → (jm_F5 a).2.1 ≠ (jm_F5 b).2.1 := by decide +kernel
theorem jm_vok5 : ∀ j, j < 5 → defaultValue (jm_Y5 j) = jm_V5 j := by decide +kernel
theorem jm_lw6_0 : u_lay "BargainTreeModel" jm_F6 0 ∈ jm_ws := jm_in (List.mem_of_getElem? (i := 669) (by decide +kernel)) (by decide +kernel)
theorem jm_lw6_1 : u_lay "BargainTreeModel" jm_F6 1 ∈ jm_ws := jm_in (List.mem_of_getElem? (i := 671) (by decide +kernel)) (by decide +kernel)
theorem jm_lw6_2 : u_lay "BargainTreeModel" jm_F6 2 ∈ jm_ws := jm_in (List.mem_of_getElem? (i := 673) (by decide +kernel)) (by decide +kernel)
theorem jm_lw6_3 : u_lay "BargainTreeModel" jm_F6 3 ∈ jm_ws := jm_in (List.mem_of_getElem? (i := 675) (by decide +kernel)) (by decide +kernel)
theorem jm_lw6_4 : u_lay "BargainTreeModel" jm_F6 4 ∈ jm_ws := jm_in (List.mem_of_getElem? (i := 677) (by decide +kernel)) (by decide +kernel)
theorem jm_lw6_5 : u_lay "BargainTreeModel" jm_F6 5 ∈ jm_ws := jm_in (List.mem_of_getElem? (i := 679) (by decide +kernel)) (by decide +kernel)
theorem jm_lw6_6 : u_lay "BargainTreeModel" jm_F6 6 ∈ jm_ws := jm_in (List.mem_of_getElem? (i := 681) (by decide +kernel)) (by decide +kernel)
theorem jm_lw6_7 : u_lay "BargainTreeModel" jm_F6 7 ∈ jm_ws := jm_in (List.mem_of_getElem? (i := 683) (by decide +kernel)) (by decide +kernel)
theorem jm_lw6_8 : u_lay "BargainTreeModel" jm_F6 8 ∈ jm_ws := jm_in (List.mem_of_getElem? (i := 685) (by decide +kernel)) (by decide +kernel)
theorem jm_lw6_9 : u_lay "BargainTreeModel" jm_F6 9 ∈ jm_ws := jm_in (List.mem_of_getElem? (i := 687) (by decide +kernel)) (by decide +kernel)
theorem jm_lw6_10 : u_lay "BargainTreeModel" jm_F6 10 ∈ jm_ws := jm_in (List.mem_of_getElem? (i := 689) (by decide +kernel)) (by decide +kernel)
theorem jm_lw6_11 : u_lay "BargainTreeModel" jm_F6 11 ∈ jm_ws := jm_in (List.mem_of_getElem? (i := 691) (by decide +kernel)) (by decide +kernel)
theorem jm_lw6_12 : u_lay "BargainTreeModel" jm_F6 12 ∈ jm_ws := jm_in (List.mem_of_getElem? (i := 693) (by decide +kernel)) (by decide +kernel)
theorem jm_lw6_13 : u_lay "BargainTreeModel" jm_F6 13 ∈ jm_ws := jm_in (List.mem_of_getElem? (i := 695) (by decide +kernel)) (by decide +kernel)
theorem jm_lw6_14 : u_lay "BargainTreeModel" jm_F6 14 ∈ jm_ws := jm_in (List.mem_of_getElem? (i := 697) (by decide +kernel)) (by decide +kernel)
theorem jm_lw6_15 : u_lay "BargainTreeModel" jm_F6 15 ∈ jm_ws := jm_in (List.mem_of_getElem? (i := 699) (by decide +kernel)) (by decide +kernel)
theorem jm_lw6_16 : u_lay "BargainTreeModel" jm_F6 16 ∈ jm_ws := jm_in (List.mem_of_getElem? (i := 701) (by decide +kernel)) (by decide +kernel)
theorem jm_lw6_17 : u_lay "BargainTreeModel" jm_F6 17 ∈ jm_ws := jm_in (List.mem_of_getElem? (i := 703) (by decide +kernel)) (by decide +kernel)
theorem jm_lw6_18 : u_lay "BargainTreeModel" jm_F6 18 ∈ jm_ws := jm_in (List.mem_of_getElem? (i := 705) (by decide +kernel)) (by decide +kernel)
theorem jm_lw6_19 : u_lay "BargainTreeModel" jm_F6 19 ∈ jm_ws := jm_in (List.mem_of_getElem? (i := 707) (by decide +kernel)) (by decide +kernel)
theorem jm_lw6_20 : u_lay "BargainTreeModel" jm_F6 20 ∈ jm_ws := jm_in (List.mem_of_getElem? (i := 709) (by decide +kernel)) (by decide +kernel)
theorem jm_lw6_21 : u_lay "BargainTreeModel" jm_F6 21 ∈ jm_ws := jm_in (List.mem_of_getElem? (i := 711) (by decide +kernel)) (by decide +kernel)
theorem jm_lw6_22 : u_lay "BargainTreeModel" jm_F6 22 ∈ jm_ws := jm_in (List.mem_of_getElem? (i := 713) (by decide +kernel)) (by decide +kernel)
theorem jm_lw6_23 : u_lay "BargainTreeModel" jm_F6 23 ∈ jm_ws := jm_in (List.mem_of_getElem? (i := 715) (by decide +kernel)) (by decide +kernel)
theorem jm_lw6_24 : u_lay "BargainTreeModel" jm_F6 24 ∈ jm_ws := jm_in (List.mem_of_getElem? (i := 717) (by decide +kernel)) (by decide +kernel)
theorem jm_lw6_25 : u_lay "BargainTreeModel" jm_F6 25 ∈ jm_ws := jm_in (List.mem_of_getElem? (i := 719) (by decide +kernel)) (by decide +kernel)
theorem jm_lw6_26 : u_lay "BargainTreeModel" jm_F6 26 ∈ jm_ws := jm_in (List.mem_of_getElem? (i := 721) (by decide +kernel)) (by decide +kernel)
theorem jm_lw6_27 : u_lay "BargainTreeModel" jm_F6 27 ∈ jm_ws := jm_in (List.mem_of_getElem? (i := 723) (by decide +kernel)) (by decide +kernel)
theorem jm_lw6_28 : u_lay "BargainTreeModel" jm_F6 28 ∈ jm_ws := jm_in (List.mem_of_getElem? (i := 725) (by decide +kernel)) (by decide +kernel)
theorem jm_lw6_29 : u_lay "BargainTreeModel" jm_F6 29 ∈ jm_ws := jm_in (List.mem_of_getElem? (i := 727) (by decide +kernel)) (by decide +kernel)
theorem jm_lw6_30 : u_lay "BargainTreeModel" jm_F6 30 ∈ jm_ws := jm_in (List.mem_of_getElem? (i := 729) (by decide +kernel)) (by decide +kernel)
theorem jm_lw6_31 : u_lay "BargainTreeModel" jm_F6 31 ∈ jm_ws := jm_in (List.mem_of_getElem? (i := 731) (by decide +kernel)) (by decide +kernel)
theorem jm_lw6_32 : u_lay "BargainTreeModel" jm_F6 32 ∈ jm_ws := jm_in (List.mem_of_getElem? (i := 733) (by decide +kernel)) (by decide +kernel)
theorem jm_lw6_33 : u_lay "BargainTreeModel" jm_F6 33 ∈ jm_ws := jm_in (List.mem_of_getElem? (i := 735) (by decide +kernel)) (by decide +kernel)
theorem jm_lw6_34 : u_lay "BargainTreeModel" jm_F6 34 ∈ jm_ws := jm_in (List.mem_of_getElem? (i := 737) (by decide +kernel)) (by decide +kernel)
theorem jm_lw6_35 : u_lay "BargainTreeModel" jm_F6 35 ∈ jm_ws := jm_in (List.mem_of_getElem? (i := 739) (by decide +kernel)) (by decide +kernel)
theorem jm_lw6_36 : u_lay "BargainTreeModel" jm_F6 36 ∈ jm_ws := jm_in (List.mem_of_getElem? (i := 741) (by decide +kernel)) (by decide +kernel)
theorem jm_lw6_37 : u_lay "BargainTreeModel" jm_F6 37 ∈ jm_ws := jm_in (List.mem_of_getElem? (i := 743) (by decide +kernel)) (by decide +kernel)
theorem jm_lw6_38 : u_lay "BargainTreeModel" jm_F6 38 ∈ jm_ws := jm_in (List.mem_of_getElem? (i := 745) (by decide +kernel)) (by decide +kernel)
theorem jm_lw6_39 : u_lay "BargainTreeModel" jm_F6 39 ∈ jm_ws := jm_in (List.mem_of_getElem? (i := 747) (by decide +kernel)) (by decide +kernel)
theorem jm_lw6_40 : u_lay "BargainTreeModel" jm_F6 40 ∈ jm_ws := jm_in (List.mem_of_getElem? (i := 749) (by decide +kernel)) (by decide +kernel)
theorem jm_lw6_41 : u_lay "BargainTreeModel" jm_F6 41 ∈ jm_ws := jm_in (List.mem_of_getElem? (i := 751) (by decide +kernel)) (by decide +kernel)
theorem jm_lin6 : ∀ w ∈ u_ws "BargainTreeModel" jm_F6 42, w ∈ jm_ws := by
  intro w hw
  obtain ⟨k, hk, rfl⟩ := List.mem_map.mp hw
  have hk := List.mem_range.mp hk
  match k, hk with
  | 0, _ => exact jm_lw6_0
  | 1, _ => exact jm_lw6_1
  | 2, _ => exact jm_lw6_2
  | 3, _ => exact jm_lw6_3
  | 4, _ => exact jm_lw6_4
  | 5, _ => exact jm_lw6_5
  | 6, _ => exact jm_lw6_6
  | 7, _ => exact jm_lw6_7
  | 8, _ => exact jm_lw6_8
  | 9, _ => exact jm_lw6_9
  | 10, _ => exact jm_lw6_10
  | 11, _ => exact jm_lw6_11
  | 12, _ => exact jm_lw6_12
  | 13, _ => exact jm_lw6_13
  | 14, _ => exact jm_lw6_14
  | 15, _ => exact jm_lw6_15
  | 16, _ => exact jm_lw6_16
  | 17, _ => exact jm_lw6_17
  | 18, _ => exact jm_lw6_18
  | 19, _ => exact jm_lw6_19
  | 20, _ => exact jm_lw6_20
  | 21, _ => exact jm_lw6_21
  | 22, _ => exact jm_lw6_22
  | 23, _ => exact jm_lw6_23
  | 24, _ => exact jm_lw6_24
  | 25, _ => exact jm_lw6_25
  | 26, _ => exact jm_lw6_26
  | 27, _ => exact jm_lw6_27
  | 28, _ => exact jm_lw6_28
  | 29, _ => exact jm_lw6_29
  | 30, _ => exact jm_lw6_30
  | 31, _ => exact jm_lw6_31
  | 32, _ => exact jm_lw6_32
  | 33, _ => exact jm_lw6_33
  | 34, _ => exact jm_lw6_34
  | 35, _ => exact jm_lw6_35
  | 36, _ => exact jm_lw6_36
  | 37, _ => exact jm_lw6_37
  | 38, _ => exact jm_lw6_38
  | 39, _ => exact jm_lw6_39
  | 40, _ => exact jm_lw6_40
  | 41, _ => exact jm_lw6_41
  | n + 42, hk => exact absurd hk (by omega)
theorem jm_yok6 : ∀ k, k < 42 → parseFieldDescriptor (jm_F6 k).2.2.1 = some (jm_Y6 k) := by decide +kernel
theorem jm_nok6 : ∀ a, a < 42 → ∀ b, b < 42 → a ≠ b → (jm_F6 a).2.1 ≠ (jm_F6 b).2.1 := by decide +kernel
theorem jm_vok6 : ∀ j, j < 42 → defaultValue (jm_Y6 j) = jm_V6 j := by decide +kernel
theorem jm_clok : ∀ (ci : Nat) (C : String) (T : u_T) (N : Nat), jm_cl[ci]? = some (C, T, N) → (∀ w ∈ u_ws C T N, w ∈ jm_ws) ∧ (∃ ty0 : Nat → FieldType, ∀ k, k < N → parseFieldDescriptor (T k).2.2.1 = some (ty0 k)) ∧ ∀ a, a < N → ∀ b, b < N → a ≠ b → (T a).2.1 ≠ (T b).2.1 := by
  intro ci C T N h
  match ci, h with
  | 0, h => cases h; exact ⟨jm_lin0, ⟨jm_Y0, jm_yok0⟩, jm_nok0⟩
  | 1, h => cases h; exact ⟨jm_lin1, ⟨jm_Y1, jm_yok1⟩, jm_nok1⟩
  | 2, h => cases h; exact ⟨jm_lin2, ⟨jm_Y2, jm_yok2⟩, jm_nok2⟩
  | 3, h => cases h; exact ⟨jm_lin3, ⟨jm_Y3, jm_yok3⟩, jm_nok3⟩
  | 4, h => cases h; exact ⟨jm_lin4, ⟨jm_Y4, jm_yok4⟩, jm_nok4⟩
  | 5, h => cases h; exact ⟨jm_lin5, ⟨jm_Y5, jm_yok5⟩, jm_nok5⟩
  | 6, h => cases h; exact ⟨jm_lin6, ⟨jm_Y6, jm_yok6⟩, jm_nok6⟩
def jm_ty : Nat → FieldType := fun k => match k with
  | 0 => .int
  | 1 => .boolean
  | 2 => .long
  | 3 => .object "BargainTree$Agent"
  | 4 => .object "BargainTree$Pair"
  | 5 => .object "BargainTree$Letter"
  | _ => .object "BargainTree$Child"
def jm_en : String := "BargainTree$Stage"
def jm_ed : String := "LBargainTree$Stage;"
def jm_enm : Nat → String := fun k => match k with
  | 0 => "NEW"
  | 1 => "WAITS"
  | _ => "THROUGH"
def jm_xn : Nat → String := fun k => match k with
  | 0 => "java/lang/IllegalArgumentException"
  | 1 => "java/lang/IllegalStateException"
  | _ => "java/lang/IndexOutOfBoundsException"
def jm_strs : List (String × Nat × String) := [("BargainTree", 37, "an agent has 2 to 4 values"), ("BargainTree", 48, "no more agents"), ("BargainTree", 62, "no such agent, value or cost"), ("BargainTree", 64, "started already"), ("BargainTree", 72, "no such two agents"), ("BargainTree", 81, "no such pair can be made"), ("BargainTree", 100, "no such pair, value or cost"), ("BargainTree", 109, "started already, or no agent"), ("BargainTree", 129, "no such action"), ("BargainTree", 136, "no such letter"), ("BargainTree", 142, "no room for one more letter"), ("BargainTree", 172, "no such agent"), ("BargainTree", 174, "not started"), ("BargainTree", 210, "something is still to be done")]
end
