/-! rows of rows -/
section NEWM
variable {X : ZX} {own nm : String} {cc : ByteArray} {nL : Nat} {rm : Room} {pc : Nat} {ls : List (Option Value)} {st : List Value} {N N' : Nat} {g : Mem} {cells slots : Nat}
def rw2 (g : Mem) (N n K : Nat) : Mem := fun k => if k = N then (8, (List.range n).map (fun i => .ref (N + 1 + i))) else if N < k ∧ k < N + 1 + n then (6, vals K (fun _ => 0)) else g k
theorem z_mna (E : Ev X own cc nL rm nm) {idx n K : Nat} {zn zk : Int} (hd : decode cc pc = .ok (.multianewarray idx 2, 4)) (hcl : Cond.classLink own idx ("[" ++ (FieldType.array .int).toString) ∈ tblG) (hac : Cond.arrayClass .int ∈ tblG) (hzn : zn = (n : Int)) (hzk : zk = (K : Int)) (hn : n ≤ 1000) (hK : K ≤ 1000) (hcell : cells + (1 + n) ≤ rm.cells ∧ slots + (n + n * K) ≤ rm.slots) (k : Zc X (pc + 4) ls (.ref N :: st) (N + 1 + n) (rw2 g N n K) (cells + 1 + n) (slots + n + n * K)) : Zc X pc ls (.int (iI zk) :: .int (iI zn) :: st) N g cells slots := sorry
end NEWM
