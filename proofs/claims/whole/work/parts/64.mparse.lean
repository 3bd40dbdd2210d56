/-! ===== the model reads: names, statements (written by wip/whole/gen_c.py) ===== -/
theorem zupd_se {w : zW} {p j : Nat} {x : Int} (h : w p j = x) : zupd w p j x = w := by rw [← h]; exact zupd_sf w p j
/-- a circle of the model by its name, or their number -/
def znd (B : Nat → Int) (n x o : Int) : Int := if zFi (fun c => B (o + c).toNat = x) n.toNat 0 = -1 then n else zFi (fun c => B (o + c).toNat = x) n.toNat 0
theorem znd_rg (B : Nat → Int) {n : Int} (x o : Int) (hn : 0 ≤ n) : 0 ≤ znd B n x o ∧ znd B n x o ≤ n := by
  have := zFi_rg (p := fun c => B (o + c).toNat = x) n.toNat 0 (by omega)
  unfold znd
  split <;> omega
noncomputable def zT184 : zSum := zin1 210 400 zT183
theorem zT184_ok : zSok zT184 := zin1_ok zT183_ok
noncomputable def zT185 : zSum := zin1 211 400 zT184
theorem zT185_ok : zSok zT185 := zin1_ok zT184_ok
noncomputable def zT186 : zSum := zin1 212 400 zT185
theorem zT186_ok : zSok zT186 := zin1_ok zT185_ok
noncomputable def zT187 : zSum := zin1 213 400 zT186
theorem zT187_ok : zSok zT187 := zin1_ok zT186_ok
noncomputable def zT188 : zSum := zin1 214 400 zT187
theorem zT188_ok : zSok zT188 := zin1_ok zT187_ok
noncomputable def zT189 : zSum := zin1 215 400 zT188
theorem zT189_ok : zSok zT189 := zin1_ok zT188_ok
noncomputable def zT190 : zSum := zin1 218 400 zT189
theorem zT190_ok : zSok zT190 := zin1_ok zT189_ok
def zmNi (s x : Int) : Int := if x = 110693765 then if s = 1 then 0 else 0 else if x = 605169331 then if s = 1 then 0 else 0 else if x = 1514885 then if s = 1 then 0 else 0 else if x = 197733 then if s = 1 then 0 else 0 else if x = 20022661 then if s = 1 then 0 else 0 else if x = 20427461 then if s = 1 then 0 else 0 else if x = 20681904 then if s = 1 then 0 else 0 else if x = 19636 then if s = 1 then 0 else 0 else if x = 12345 then if s = 1 then 0 else 0 else if x = 677454 then if s = 1 then 0 else 0 else if x = 99725 then if s = 1 then 0 else 0 else if x = 609752116 then if s = 1 then 0 else 0 else if s = 1 then 1 else 0
/-! Model.isName -/
set_option maxRecDepth 100000 in
theorem zk219_93 (w : zW) (K : zK) (h : K (0, some (0, zmNi (w 93 6) (w 93 12))) (w) 238) : zcall 219 [(2, 93), (9, 0)] w 238 K := by
  refine (show (if w 93 12 = 110693765 then if w 93 6 = 1 then K (0, some (0, 0)) w 238 else K (0, some (0, 0)) w 238 else if w 93 12 = 605169331 then if w 93 6 = 1 then K (0, some (0, 0)) w 238 else K (0, some (0, 0)) w 238 else if w 93 12 = 1514885 then if w 93 6 = 1 then K (0, some (0, 0)) w 238 else K (0, some (0, 0)) w 238 else if w 93 12 = 197733 then if w 93 6 = 1 then K (0, some (0, 0)) w 238 else K (0, some (0, 0)) w 238 else if w 93 12 = 20022661 then if w 93 6 = 1 then K (0, some (0, 0)) w 238 else K (0, some (0, 0)) w 238 else if w 93 12 = 20427461 then if w 93 6 = 1 then K (0, some (0, 0)) w 238 else K (0, some (0, 0)) w 238 else if w 93 12 = 20681904 then if w 93 6 = 1 then K (0, some (0, 0)) w 238 else K (0, some (0, 0)) w 238 else if w 93 12 = 19636 then if w 93 6 = 1 then K (0, some (0, 0)) w 238 else K (0, some (0, 0)) w 238 else if w 93 12 = 12345 then if w 93 6 = 1 then K (0, some (0, 0)) w 238 else K (0, some (0, 0)) w 238 else if w 93 12 = 677454 then if w 93 6 = 1 then K (0, some (0, 0)) w 238 else K (0, some (0, 0)) w 238 else if w 93 12 = 99725 then if w 93 6 = 1 then K (0, some (0, 0)) w 238 else K (0, some (0, 0)) w 238 else if w 93 12 = 609752116 then if w 93 6 = 1 then K (0, some (0, 0)) w 238 else K (0, some (0, 0)) w 238 else if w 93 6 = 1 then K (0, some (0, 1)) w 238 else K (0, some (0, 0)) w 238) → _ from fun h => show zwp 219 0 [(2, 93), (9, 0)] [] w 238 0 K from zgo_imp zT190_ok (cut := fun pc => Nat.beq pc 22 || Nat.beq pc 44 || Nat.beq pc 61 || Nat.beq pc 80 || Nat.beq pc 99 || Nat.beq pc 120 || Nat.beq pc 142 || Nat.beq pc 157) 400 (show if w 93 12 = 110693765 then zwp 219 61 [(2, 93), (0, 1)] [] w 238 0 K else if w 93 12 = 605169331 then zwp 219 61 [(2, 93), (0, 1)] [] w 238 0 K else zwp 219 22 [(2, 93), (9, 0)] [] w 238 0 K from zmI (fun h => (fun h => show zwp 219 61 [(2, 93), (0, 1)] [] w 238 0 K from zgo_imp zT190_ok (cut := fun pc => Nat.beq pc 22 || Nat.beq pc 44 || Nat.beq pc 61 || Nat.beq pc 80 || Nat.beq pc 99 || Nat.beq pc 120 || Nat.beq pc 142 || Nat.beq pc 157) 400 (show zwp 219 142 [(2, 93), (0, 1)] [] w 238 0 K from (fun h => show zwp 219 142 [(2, 93), (0, 1)] [] w 238 0 K from zgo_imp zT190_ok (cut := fun pc => Nat.beq pc 22 || Nat.beq pc 44 || Nat.beq pc 61 || Nat.beq pc 80 || Nat.beq pc 99 || Nat.beq pc 120 || Nat.beq pc 142 || Nat.beq pc 157) 400 (show if w 93 6 = 1 then zwp 219 157 [(2, 93), (0, 1)] [(0, 1)] w 238 0 K else K (0, some (0, 0)) w 238 from zmI (fun h => (fun h => show zwp 219 157 [(2, 93), (0, 1)] [(0, 1)] w 238 0 K from zgo_imp zT190_ok (cut := fun pc => Nat.beq pc 22 || Nat.beq pc 44 || Nat.beq pc 61 || Nat.beq pc 80 || Nat.beq pc 99 || Nat.beq pc 120 || Nat.beq pc 142 || Nat.beq pc 157) 400 (show K (0, some (0, 0)) w 238 from h)) h) (fun h => h) h)) h)) h) (fun h => zmI (fun h => (fun h => show zwp 219 61 [(2, 93), (0, 1)] [] w 238 0 K from zgo_imp zT190_ok (cut := fun pc => Nat.beq pc 22 || Nat.beq pc 44 || Nat.beq pc 61 || Nat.beq pc 80 || Nat.beq pc 99 || Nat.beq pc 120 || Nat.beq pc 142 || Nat.beq pc 157) 400 (show zwp 219 142 [(2, 93), (0, 1)] [] w 238 0 K from (fun h => show zwp 219 142 [(2, 93), (0, 1)] [] w 238 0 K from zgo_imp zT190_ok (cut := fun pc => Nat.beq pc 22 || Nat.beq pc 44 || Nat.beq pc 61 || Nat.beq pc 80 || Nat.beq pc 99 || Nat.beq pc 120 || Nat.beq pc 142 || Nat.beq pc 157) 400 (show if w 93 6 = 1 then zwp 219 157 [(2, 93), (0, 1)] [(0, 1)] w 238 0 K else K (0, some (0, 0)) w 238 from zmI (fun h => (fun h => show zwp 219 157 [(2, 93), (0, 1)] [(0, 1)] w 238 0 K from zgo_imp zT190_ok (cut := fun pc => Nat.beq pc 22 || Nat.beq pc 44 || Nat.beq pc 61 || Nat.beq pc 80 || Nat.beq pc 99 || Nat.beq pc 120 || Nat.beq pc 142 || Nat.beq pc 157) 400 (show K (0, some (0, 0)) w 238 from h)) h) (fun h => h) h)) h)) h) (fun h => (fun h => show zwp 219 22 [(2, 93), (9, 0)] [] w 238 0 K from zgo_imp zT190_ok (cut := fun pc => Nat.beq pc 22 || Nat.beq pc 44 || Nat.beq pc 61 || Nat.beq pc 80 || Nat.beq pc 99 || Nat.beq pc 120 || Nat.beq pc 142 || Nat.beq pc 157) 400 (show if w 93 12 = 1514885 then zwp 219 61 [(2, 93), (0, 1)] [] w 238 0 K else if w 93 12 = 197733 then zwp 219 61 [(2, 93), (0, 1)] [] w 238 0 K else zwp 219 44 [(2, 93), (9, 0)] [] w 238 0 K from zmI (fun h => (fun h => show zwp 219 61 [(2, 93), (0, 1)] [] w 238 0 K from zgo_imp zT190_ok (cut := fun pc => Nat.beq pc 22 || Nat.beq pc 44 || Nat.beq pc 61 || Nat.beq pc 80 || Nat.beq pc 99 || Nat.beq pc 120 || Nat.beq pc 142 || Nat.beq pc 157) 400 (show zwp 219 142 [(2, 93), (0, 1)] [] w 238 0 K from (fun h => show zwp 219 142 [(2, 93), (0, 1)] [] w 238 0 K from zgo_imp zT190_ok (cut := fun pc => Nat.beq pc 22 || Nat.beq pc 44 || Nat.beq pc 61 || Nat.beq pc 80 || Nat.beq pc 99 || Nat.beq pc 120 || Nat.beq pc 142 || Nat.beq pc 157) 400 (show if w 93 6 = 1 then zwp 219 157 [(2, 93), (0, 1)] [(0, 1)] w 238 0 K else K (0, some (0, 0)) w 238 from zmI (fun h => (fun h => show zwp 219 157 [(2, 93), (0, 1)] [(0, 1)] w 238 0 K from zgo_imp zT190_ok (cut := fun pc => Nat.beq pc 22 || Nat.beq pc 44 || Nat.beq pc 61 || Nat.beq pc 80 || Nat.beq pc 99 || Nat.beq pc 120 || Nat.beq pc 142 || Nat.beq pc 157) 400 (show K (0, some (0, 0)) w 238 from h)) h) (fun h => h) h)) h)) h) (fun h => zmI (fun h => (fun h => show zwp 219 61 [(2, 93), (0, 1)] [] w 238 0 K from zgo_imp zT190_ok (cut := fun pc => Nat.beq pc 22 || Nat.beq pc 44 || Nat.beq pc 61 || Nat.beq pc 80 || Nat.beq pc 99 || Nat.beq pc 120 || Nat.beq pc 142 || Nat.beq pc 157) 400 (show zwp 219 142 [(2, 93), (0, 1)] [] w 238 0 K from (fun h => show zwp 219 142 [(2, 93), (0, 1)] [] w 238 0 K from zgo_imp zT190_ok (cut := fun pc => Nat.beq pc 22 || Nat.beq pc 44 || Nat.beq pc 61 || Nat.beq pc 80 || Nat.beq pc 99 || Nat.beq pc 120 || Nat.beq pc 142 || Nat.beq pc 157) 400 (show if w 93 6 = 1 then zwp 219 157 [(2, 93), (0, 1)] [(0, 1)] w 238 0 K else K (0, some (0, 0)) w 238 from zmI (fun h => (fun h => show zwp 219 157 [(2, 93), (0, 1)] [(0, 1)] w 238 0 K from zgo_imp zT190_ok (cut := fun pc => Nat.beq pc 22 || Nat.beq pc 44 || Nat.beq pc 61 || Nat.beq pc 80 || Nat.beq pc 99 || Nat.beq pc 120 || Nat.beq pc 142 || Nat.beq pc 157) 400 (show K (0, some (0, 0)) w 238 from h)) h) (fun h => h) h)) h)) h) (fun h => (fun h => show zwp 219 44 [(2, 93), (9, 0)] [] w 238 0 K from zgo_imp zT190_ok (cut := fun pc => Nat.beq pc 22 || Nat.beq pc 44 || Nat.beq pc 61 || Nat.beq pc 80 || Nat.beq pc 99 || Nat.beq pc 120 || Nat.beq pc 142 || Nat.beq pc 157) 400 (show if w 93 12 = 20022661 then zwp 219 61 [(2, 93), (0, 1)] [] w 238 0 K else zwp 219 61 [(2, 93), (0, 0)] [] w 238 0 K from zmI (fun h => (fun h => show zwp 219 61 [(2, 93), (0, 1)] [] w 238 0 K from zgo_imp zT190_ok (cut := fun pc => Nat.beq pc 22 || Nat.beq pc 44 || Nat.beq pc 61 || Nat.beq pc 80 || Nat.beq pc 99 || Nat.beq pc 120 || Nat.beq pc 142 || Nat.beq pc 157) 400 (show zwp 219 142 [(2, 93), (0, 1)] [] w 238 0 K from (fun h => show zwp 219 142 [(2, 93), (0, 1)] [] w 238 0 K from zgo_imp zT190_ok (cut := fun pc => Nat.beq pc 22 || Nat.beq pc 44 || Nat.beq pc 61 || Nat.beq pc 80 || Nat.beq pc 99 || Nat.beq pc 120 || Nat.beq pc 142 || Nat.beq pc 157) 400 (show if w 93 6 = 1 then zwp 219 157 [(2, 93), (0, 1)] [(0, 1)] w 238 0 K else K (0, some (0, 0)) w 238 from zmI (fun h => (fun h => show zwp 219 157 [(2, 93), (0, 1)] [(0, 1)] w 238 0 K from zgo_imp zT190_ok (cut := fun pc => Nat.beq pc 22 || Nat.beq pc 44 || Nat.beq pc 61 || Nat.beq pc 80 || Nat.beq pc 99 || Nat.beq pc 120 || Nat.beq pc 142 || Nat.beq pc 157) 400 (show K (0, some (0, 0)) w 238 from h)) h) (fun h => h) h)) h)) h) (fun h => (fun h => show zwp 219 61 [(2, 93), (0, 0)] [] w 238 0 K from zgo_imp zT190_ok (cut := fun pc => Nat.beq pc 22 || Nat.beq pc 44 || Nat.beq pc 61 || Nat.beq pc 80 || Nat.beq pc 99 || Nat.beq pc 120 || Nat.beq pc 142 || Nat.beq pc 157) 400 (show if w 93 12 = 20427461 then zwp 219 142 [(2, 93), (0, 0)] [] w 238 0 K else zwp 219 80 [(2, 93), (0, 0)] [(1, w 93 12)] w 238 0 K from zmI (fun h => (fun h => show zwp 219 142 [(2, 93), (0, 0)] [] w 238 0 K from zgo_imp zT190_ok (cut := fun pc => Nat.beq pc 22 || Nat.beq pc 44 || Nat.beq pc 61 || Nat.beq pc 80 || Nat.beq pc 99 || Nat.beq pc 120 || Nat.beq pc 142 || Nat.beq pc 157) 400 (show if w 93 6 = 1 then zwp 219 157 [(2, 93), (0, 1)] [(0, 1)] w 238 0 K else K (0, some (0, 0)) w 238 from zmI (fun h => (fun h => show zwp 219 157 [(2, 93), (0, 1)] [(0, 1)] w 238 0 K from zgo_imp zT190_ok (cut := fun pc => Nat.beq pc 22 || Nat.beq pc 44 || Nat.beq pc 61 || Nat.beq pc 80 || Nat.beq pc 99 || Nat.beq pc 120 || Nat.beq pc 142 || Nat.beq pc 157) 400 (show K (0, some (0, 0)) w 238 from h)) h) (fun h => h) h)) h) (fun h => (fun h => show zwp 219 80 [(2, 93), (0, 0)] [(1, w 93 12)] w 238 0 K from zgo_imp zT190_ok (cut := fun pc => Nat.beq pc 22 || Nat.beq pc 44 || Nat.beq pc 61 || Nat.beq pc 80 || Nat.beq pc 99 || Nat.beq pc 120 || Nat.beq pc 142 || Nat.beq pc 157) 400 (show if w 93 12 = 20681904 then zwp 219 142 [(2, 93), (0, 0)] [] w 238 0 K else if w 93 12 = 19636 then zwp 219 142 [(2, 93), (0, 0)] [] w 238 0 K else zwp 219 99 [(2, 93), (0, 0)] [(2, 93)] w 238 0 K from zmI (fun h => (fun h => show zwp 219 142 [(2, 93), (0, 0)] [] w 238 0 K from zgo_imp zT190_ok (cut := fun pc => Nat.beq pc 22 || Nat.beq pc 44 || Nat.beq pc 61 || Nat.beq pc 80 || Nat.beq pc 99 || Nat.beq pc 120 || Nat.beq pc 142 || Nat.beq pc 157) 400 (show if w 93 6 = 1 then zwp 219 157 [(2, 93), (0, 1)] [(0, 1)] w 238 0 K else K (0, some (0, 0)) w 238 from zmI (fun h => (fun h => show zwp 219 157 [(2, 93), (0, 1)] [(0, 1)] w 238 0 K from zgo_imp zT190_ok (cut := fun pc => Nat.beq pc 22 || Nat.beq pc 44 || Nat.beq pc 61 || Nat.beq pc 80 || Nat.beq pc 99 || Nat.beq pc 120 || Nat.beq pc 142 || Nat.beq pc 157) 400 (show K (0, some (0, 0)) w 238 from h)) h) (fun h => h) h)) h) (fun h => zmI (fun h => (fun h => show zwp 219 142 [(2, 93), (0, 0)] [] w 238 0 K from zgo_imp zT190_ok (cut := fun pc => Nat.beq pc 22 || Nat.beq pc 44 || Nat.beq pc 61 || Nat.beq pc 80 || Nat.beq pc 99 || Nat.beq pc 120 || Nat.beq pc 142 || Nat.beq pc 157) 400 (show if w 93 6 = 1 then zwp 219 157 [(2, 93), (0, 1)] [(0, 1)] w 238 0 K else K (0, some (0, 0)) w 238 from zmI (fun h => (fun h => show zwp 219 157 [(2, 93), (0, 1)] [(0, 1)] w 238 0 K from zgo_imp zT190_ok (cut := fun pc => Nat.beq pc 22 || Nat.beq pc 44 || Nat.beq pc 61 || Nat.beq pc 80 || Nat.beq pc 99 || Nat.beq pc 120 || Nat.beq pc 142 || Nat.beq pc 157) 400 (show K (0, some (0, 0)) w 238 from h)) h) (fun h => h) h)) h) (fun h => (fun h => show zwp 219 99 [(2, 93), (0, 0)] [(2, 93)] w 238 0 K from zgo_imp zT190_ok (cut := fun pc => Nat.beq pc 22 || Nat.beq pc 44 || Nat.beq pc 61 || Nat.beq pc 80 || Nat.beq pc 99 || Nat.beq pc 120 || Nat.beq pc 142 || Nat.beq pc 157) 400 (show if w 93 12 = 12345 then zwp 219 142 [(2, 93), (0, 0)] [] w 238 0 K else if w 93 12 = 677454 then zwp 219 142 [(2, 93), (0, 0)] [] w 238 0 K else zwp 219 120 [(2, 93), (0, 0)] [] w 238 0 K from zmI (fun h => (fun h => show zwp 219 142 [(2, 93), (0, 0)] [] w 238 0 K from zgo_imp zT190_ok (cut := fun pc => Nat.beq pc 22 || Nat.beq pc 44 || Nat.beq pc 61 || Nat.beq pc 80 || Nat.beq pc 99 || Nat.beq pc 120 || Nat.beq pc 142 || Nat.beq pc 157) 400 (show if w 93 6 = 1 then zwp 219 157 [(2, 93), (0, 1)] [(0, 1)] w 238 0 K else K (0, some (0, 0)) w 238 from zmI (fun h => (fun h => show zwp 219 157 [(2, 93), (0, 1)] [(0, 1)] w 238 0 K from zgo_imp zT190_ok (cut := fun pc => Nat.beq pc 22 || Nat.beq pc 44 || Nat.beq pc 61 || Nat.beq pc 80 || Nat.beq pc 99 || Nat.beq pc 120 || Nat.beq pc 142 || Nat.beq pc 157) 400 (show K (0, some (0, 0)) w 238 from h)) h) (fun h => h) h)) h) (fun h => zmI (fun h => (fun h => show zwp 219 142 [(2, 93), (0, 0)] [] w 238 0 K from zgo_imp zT190_ok (cut := fun pc => Nat.beq pc 22 || Nat.beq pc 44 || Nat.beq pc 61 || Nat.beq pc 80 || Nat.beq pc 99 || Nat.beq pc 120 || Nat.beq pc 142 || Nat.beq pc 157) 400 (show if w 93 6 = 1 then zwp 219 157 [(2, 93), (0, 1)] [(0, 1)] w 238 0 K else K (0, some (0, 0)) w 238 from zmI (fun h => (fun h => show zwp 219 157 [(2, 93), (0, 1)] [(0, 1)] w 238 0 K from zgo_imp zT190_ok (cut := fun pc => Nat.beq pc 22 || Nat.beq pc 44 || Nat.beq pc 61 || Nat.beq pc 80 || Nat.beq pc 99 || Nat.beq pc 120 || Nat.beq pc 142 || Nat.beq pc 157) 400 (show K (0, some (0, 0)) w 238 from h)) h) (fun h => h) h)) h) (fun h => (fun h => show zwp 219 120 [(2, 93), (0, 0)] [] w 238 0 K from zgo_imp zT190_ok (cut := fun pc => Nat.beq pc 22 || Nat.beq pc 44 || Nat.beq pc 61 || Nat.beq pc 80 || Nat.beq pc 99 || Nat.beq pc 120 || Nat.beq pc 142 || Nat.beq pc 157) 400 (show if w 93 12 = 99725 then zwp 219 142 [(2, 93), (0, 0)] [] w 238 0 K else if w 93 12 = 609752116 then zwp 219 142 [(2, 93), (0, 0)] [] w 238 0 K else if w 93 6 = 1 then zwp 219 157 [(2, 93), (0, 0)] [(0, 0)] w 238 0 K else K (0, some (0, 0)) w 238 from zmI (fun h => (fun h => show zwp 219 142 [(2, 93), (0, 0)] [] w 238 0 K from zgo_imp zT190_ok (cut := fun pc => Nat.beq pc 22 || Nat.beq pc 44 || Nat.beq pc 61 || Nat.beq pc 80 || Nat.beq pc 99 || Nat.beq pc 120 || Nat.beq pc 142 || Nat.beq pc 157) 400 (show if w 93 6 = 1 then zwp 219 157 [(2, 93), (0, 1)] [(0, 1)] w 238 0 K else K (0, some (0, 0)) w 238 from zmI (fun h => (fun h => show zwp 219 157 [(2, 93), (0, 1)] [(0, 1)] w 238 0 K from zgo_imp zT190_ok (cut := fun pc => Nat.beq pc 22 || Nat.beq pc 44 || Nat.beq pc 61 || Nat.beq pc 80 || Nat.beq pc 99 || Nat.beq pc 120 || Nat.beq pc 142 || Nat.beq pc 157) 400 (show K (0, some (0, 0)) w 238 from h)) h) (fun h => h) h)) h) (fun h => zmI (fun h => (fun h => show zwp 219 142 [(2, 93), (0, 0)] [] w 238 0 K from zgo_imp zT190_ok (cut := fun pc => Nat.beq pc 22 || Nat.beq pc 44 || Nat.beq pc 61 || Nat.beq pc 80 || Nat.beq pc 99 || Nat.beq pc 120 || Nat.beq pc 142 || Nat.beq pc 157) 400 (show if w 93 6 = 1 then zwp 219 157 [(2, 93), (0, 1)] [(0, 1)] w 238 0 K else K (0, some (0, 0)) w 238 from zmI (fun h => (fun h => show zwp 219 157 [(2, 93), (0, 1)] [(0, 1)] w 238 0 K from zgo_imp zT190_ok (cut := fun pc => Nat.beq pc 22 || Nat.beq pc 44 || Nat.beq pc 61 || Nat.beq pc 80 || Nat.beq pc 99 || Nat.beq pc 120 || Nat.beq pc 142 || Nat.beq pc 157) 400 (show K (0, some (0, 0)) w 238 from h)) h) (fun h => h) h)) h) (fun h => zmI (fun h => (fun h => show zwp 219 157 [(2, 93), (0, 0)] [(0, 0)] w 238 0 K from zgo_imp zT190_ok (cut := fun pc => Nat.beq pc 22 || Nat.beq pc 44 || Nat.beq pc 61 || Nat.beq pc 80 || Nat.beq pc 99 || Nat.beq pc 120 || Nat.beq pc 142 || Nat.beq pc 157) 400 (show K (0, some (0, 1)) w 238 from h)) h) (fun h => h) h) h) h)) h) h) h)) h) h) h)) h) h)) h) h)) h) h) h)) h) h) h)) ?_
  unfold zmNi at h
  by_cases q0 : w 93 12 = 110693765
  · rw [if_pos q0] at h
    refine ziT q0 ?_
    by_cases q1 : w 93 6 = 1
    · rw [if_pos q1] at h
      refine ziT q1 ?_
      exact h
    · rw [if_neg q1] at h
      refine ziF q1 ?_
      exact h
  · rw [if_neg q0] at h
    refine ziF q0 ?_
    by_cases q2 : w 93 12 = 605169331
    · rw [if_pos q2] at h
      refine ziT q2 ?_
      by_cases q3 : w 93 6 = 1
      · rw [if_pos q3] at h
        refine ziT q3 ?_
        exact h
      · rw [if_neg q3] at h
        refine ziF q3 ?_
        exact h
    · rw [if_neg q2] at h
      refine ziF q2 ?_
      by_cases q4 : w 93 12 = 1514885
      · rw [if_pos q4] at h
        refine ziT q4 ?_
        by_cases q5 : w 93 6 = 1
        · rw [if_pos q5] at h
          refine ziT q5 ?_
          exact h
        · rw [if_neg q5] at h
          refine ziF q5 ?_
          exact h
      · rw [if_neg q4] at h
        refine ziF q4 ?_
        by_cases q6 : w 93 12 = 197733
        · rw [if_pos q6] at h
          refine ziT q6 ?_
          by_cases q7 : w 93 6 = 1
          · rw [if_pos q7] at h
            refine ziT q7 ?_
            exact h
          · rw [if_neg q7] at h
            refine ziF q7 ?_
            exact h
        · rw [if_neg q6] at h
          refine ziF q6 ?_
          by_cases q8 : w 93 12 = 20022661
          · rw [if_pos q8] at h
            refine ziT q8 ?_
            by_cases q9 : w 93 6 = 1
            · rw [if_pos q9] at h
              refine ziT q9 ?_
              exact h
            · rw [if_neg q9] at h
              refine ziF q9 ?_
              exact h
          · rw [if_neg q8] at h
            refine ziF q8 ?_
            by_cases q10 : w 93 12 = 20427461
            · rw [if_pos q10] at h
              refine ziT q10 ?_
              by_cases q11 : w 93 6 = 1
              · rw [if_pos q11] at h
                refine ziT q11 ?_
                exact h
              · rw [if_neg q11] at h
                refine ziF q11 ?_
                exact h
            · rw [if_neg q10] at h
              refine ziF q10 ?_
              by_cases q12 : w 93 12 = 20681904
              · rw [if_pos q12] at h
                refine ziT q12 ?_
                by_cases q13 : w 93 6 = 1
                · rw [if_pos q13] at h
                  refine ziT q13 ?_
                  exact h
                · rw [if_neg q13] at h
                  refine ziF q13 ?_
                  exact h
              · rw [if_neg q12] at h
                refine ziF q12 ?_
                by_cases q14 : w 93 12 = 19636
                · rw [if_pos q14] at h
                  refine ziT q14 ?_
                  by_cases q15 : w 93 6 = 1
                  · rw [if_pos q15] at h
                    refine ziT q15 ?_
                    exact h
                  · rw [if_neg q15] at h
                    refine ziF q15 ?_
                    exact h
                · rw [if_neg q14] at h
                  refine ziF q14 ?_
                  by_cases q16 : w 93 12 = 12345
                  · rw [if_pos q16] at h
                    refine ziT q16 ?_
                    by_cases q17 : w 93 6 = 1
                    · rw [if_pos q17] at h
                      refine ziT q17 ?_
                      exact h
                    · rw [if_neg q17] at h
                      refine ziF q17 ?_
                      exact h
                  · rw [if_neg q16] at h
                    refine ziF q16 ?_
                    by_cases q18 : w 93 12 = 677454
                    · rw [if_pos q18] at h
                      refine ziT q18 ?_
                      by_cases q19 : w 93 6 = 1
                      · rw [if_pos q19] at h
                        refine ziT q19 ?_
                        exact h
                      · rw [if_neg q19] at h
                        refine ziF q19 ?_
                        exact h
                    · rw [if_neg q18] at h
                      refine ziF q18 ?_
                      by_cases q20 : w 93 12 = 99725
                      · rw [if_pos q20] at h
                        refine ziT q20 ?_
                        by_cases q21 : w 93 6 = 1
                        · rw [if_pos q21] at h
                          refine ziT q21 ?_
                          exact h
                        · rw [if_neg q21] at h
                          refine ziF q21 ?_
                          exact h
                      · rw [if_neg q20] at h
                        refine ziF q20 ?_
                        by_cases q22 : w 93 12 = 609752116
                        · rw [if_pos q22] at h
                          refine ziT q22 ?_
                          by_cases q23 : w 93 6 = 1
                          · rw [if_pos q23] at h
                            refine ziT q23 ?_
                            exact h
                          · rw [if_neg q23] at h
                            refine ziF q23 ?_
                            exact h
                        · rw [if_neg q22] at h
                          refine ziF q22 ?_
                          by_cases q24 : w 93 6 = 1
                          · rw [if_pos q24] at h
                            refine ziT q24 ?_
                            exact h
                          · rw [if_neg q24] at h
                            refine ziF q24 ?_
                            exact h
noncomputable def zb219 (l0 : List zV) (w : zW) (K : zK) : Prop := cond (zpe (zar l0 0) 93) (K (0, some (0, zmNi (w 93 6) (w 93 12))) (w) 238) (False)
noncomputable def zT191 : zSum := zsm1 219 [2, 9] zb219 zT190
theorem zT191_ok : zSok zT191 := zsm1_ok zT190_ok fun l0 w K h => by
  unfold zb219 at h
  cases q0 : zpe (zar l0 0) 93 with
  | true =>
    rw [q0, cond_true] at h
    have e : zar l0 0 = 93 := zpe_e q0
    show zcall 219 [(2, zar l0 0), (9, 0)] w 238 K
    rw [e]
    exact zk219_93  w K h
  | false =>
  rw [q0, cond_false] at h
  exact h.elim
set_option maxRecDepth 100000 in
theorem zk222_L2 {w : zW} {K : zK} (hn : 0 ≤ w 95 1 ∧ w 95 1 ≤ 12)  : ∀ (m : Nat) (c : Int), (0 ≤ c) → (c + m = w 95 1) → (K (0, some (0, if zFi (fun c => w 101 (12 + c).toNat = w 93 12) m c = -1 then w 95 1 else zFi (fun c => w 101 (12 + c).toNat = w 93 12) m c)) w 238) → zwp 222 2 [(2, 93), (0, c)] [] w 238 0 K := by
  
  intro m
  induction m with
  | zero =>
    intro c  h1 h2 h
    refine (show (if c < w 95 1 then zif False (0 ≤ z32 (12 + c) ∧ z32 (12 + c) < 36) (if w 101 (z32 (12 + c)).toNat = w 93 12 then K (0, some (0, c)) w 238 else zwp 222 2 [(2, 93), (0, z32 (c + 1))] [] w 238 0 K) else K (0, some (0, c)) w 238) → _ from fun h => show zwp 222 2 [(2, 93), (0, c)] [] w 238 0 K from zgo_imp zT191_ok (cut := fun pc => Nat.beq pc 2 || Nat.beq pc 13 || Nat.beq pc 29) 400 (show if c < w 95 1 then zwp 222 13 [(2, 93), (0, c)] [(2, 93)] w 238 0 K else K (0, some (0, c)) w 238 from zmI (fun h => (fun h => show zwp 222 13 [(2, 93), (0, c)] [(2, 93)] w 238 0 K from zgo_imp zT191_ok (cut := fun pc => Nat.beq pc 2 || Nat.beq pc 13 || Nat.beq pc 29) 400 (show zif False (0 ≤ z32 (12 + c) ∧ z32 (12 + c) < 36) (if w 101 (z32 (12 + c)).toNat = w 93 12 then K (0, some (0, c)) w 238 else zwp 222 29 [(2, 93), (0, c)] [] w 238 0 K) from zmZ (fun h => zmI (fun h => h) (fun h => (fun h => show zwp 222 29 [(2, 93), (0, c)] [] w 238 0 K from zgo_imp zT191_ok (cut := fun pc => Nat.beq pc 2 || Nat.beq pc 13 || Nat.beq pc 29) 400 (show zwp 222 2 [(2, 93), (0, z32 (c + 1))] [] w 238 0 K from h)) h) h) h)) h) (fun h => h) h)) ?_
    rw [if_pos (show zFi (fun c => w 101 (12 + c).toNat = w 93 12) 0 c = -1 from rfl)] at h
    exact ziF (by omega) (zKe h (by omega))
  | succ m ih =>
    intro c  h1 h2 h
    refine (show (if c < w 95 1 then zif False (0 ≤ z32 (12 + c) ∧ z32 (12 + c) < 36) (if w 101 (z32 (12 + c)).toNat = w 93 12 then K (0, some (0, c)) w 238 else zwp 222 2 [(2, 93), (0, z32 (c + 1))] [] w 238 0 K) else K (0, some (0, c)) w 238) → _ from fun h => show zwp 222 2 [(2, 93), (0, c)] [] w 238 0 K from zgo_imp zT191_ok (cut := fun pc => Nat.beq pc 2 || Nat.beq pc 13 || Nat.beq pc 29) 400 (show if c < w 95 1 then zwp 222 13 [(2, 93), (0, c)] [(2, 93)] w 238 0 K else K (0, some (0, c)) w 238 from zmI (fun h => (fun h => show zwp 222 13 [(2, 93), (0, c)] [(2, 93)] w 238 0 K from zgo_imp zT191_ok (cut := fun pc => Nat.beq pc 2 || Nat.beq pc 13 || Nat.beq pc 29) 400 (show zif False (0 ≤ z32 (12 + c) ∧ z32 (12 + c) < 36) (if w 101 (z32 (12 + c)).toNat = w 93 12 then K (0, some (0, c)) w 238 else zwp 222 29 [(2, 93), (0, c)] [] w 238 0 K) from zmZ (fun h => zmI (fun h => h) (fun h => (fun h => show zwp 222 29 [(2, 93), (0, c)] [] w 238 0 K from zgo_imp zT191_ok (cut := fun pc => Nat.beq pc 2 || Nat.beq pc 13 || Nat.beq pc 29) 400 (show zwp 222 2 [(2, 93), (0, z32 (c + 1))] [] w 238 0 K from h)) h) h) h)) h) (fun h => h) h)) ?_
    have e : zFi (fun c => w 101 (12 + c).toNat = w 93 12) (m + 1) c = if w 101 (12 + c).toNat = w 93 12 then c else zFi (fun c => w 101 (12 + c).toNat = w 93 12) m (c + 1) := rfl
    rw [e] at h
    rw [z32_id (x := 12 + c) ⟨by omega, by omega⟩, z32_id (x := c + 1) ⟨by omega, by omega⟩]
    refine ziT (by omega) (zifI (by omega) ?_)
    by_cases g : w 101 (12 + c).toNat = w 93 12
    · rw [if_pos g, if_neg (by omega)] at h
      exact ziT g h
    · rw [if_neg g] at h
      exact ziF g (ih _ (by omega) (by omega) h)
/-! Model.named -/
set_option maxRecDepth 100000 in
theorem zk222_93 (w : zW) (K : zK) (h : (0 ≤ w 95 1 ∧ w 95 1 ≤ 12) ∧ (K (0, some (0, znd (w 101) (w 95 1) (w 93 12) 12)) (w) 238)) : zcall 222 [(2, 93), (9, 0)] w 238 K := by
  obtain ⟨hg, h⟩ := h
  refine (show (zwp 222 2 [(2, 93), (0, 0)] [] w 238 0 K) → _ from fun h => show zwp 222 0 [(2, 93), (9, 0)] [] w 238 0 K from zgo_imp zT191_ok (cut := fun pc => Nat.beq pc 2 || Nat.beq pc 13 || Nat.beq pc 29) 400 (show zwp 222 2 [(2, 93), (0, 0)] [] w 238 0 K from h)) ?_
  unfold znd at h
  exact zk222_L2 hg (w 95 1).toNat 0 (by omega) (by omega) h
noncomputable def zb222 (l0 : List zV) (w : zW) (K : zK) : Prop := cond (zpe (zar l0 0) 93) ((0 ≤ w 95 1 ∧ w 95 1 ≤ 12) ∧ (K (0, some (0, znd (w 101) (w 95 1) (w 93 12) 12)) (w) 238)) (False)
noncomputable def zT192 : zSum := zsm1 222 [2, 9] zb222 zT191
theorem zT192_ok : zSok zT192 := zsm1_ok zT191_ok fun l0 w K h => by
  unfold zb222 at h
  cases q0 : zpe (zar l0 0) 93 with
  | true =>
    rw [q0, cond_true] at h
    have e : zar l0 0 = 93 := zpe_e q0
    show zcall 222 [(2, zar l0 0), (9, 0)] w 238 K
    rw [e]
    exact zk222_93  w K h
  | false =>
  rw [q0, cond_false] at h
  exact h.elim
/-! Model.hasSide -/
set_option maxRecDepth 100000 in
theorem zk224_93 (a b : Int) (w : zW) (K : zK) (h : ((0 ≤ a ∧ a < 12) ∧ 0 ≤ b ∧ b < 12) ∧ (K (0, some (0, (if zfw w 1 a b = -1 then 0 else 1))) (w) 238)) : zcall 224 [(2, 93), (0, a), (0, b)] w 238 K := by
  obtain ⟨hg, h⟩ := h
  refine (show (zif False (0 ≤ z32 ((z32 (144 + (z32 (12 * a)))) + b) ∧ z32 ((z32 (144 + (z32 (12 * a)))) + b) < 432) (if w 100 (z32 ((z32 (144 + (z32 (12 * a)))) + b)).toNat = (-1) then K (0, some (0, 0)) w 238 else K (0, some (0, 1)) w 238)) → _ from fun h => show zwp 224 0 [(2, 93), (0, a), (0, b)] [] w 238 0 K from zgo_imp zT192_ok (cut := fun pc => Nat.beq pc 14) 400 (show zwp 224 14 [(2, 93), (0, a), (0, b)] [(0, z32 ((z32 (144 + (z32 (12 * a)))) + b)), (2, 100)] w 238 0 K from (fun h => show zwp 224 14 [(2, 93), (0, a), (0, b)] [(0, z32 ((z32 (144 + (z32 (12 * a)))) + b)), (2, 100)] w 238 0 K from zgo_imp zT192_ok (cut := fun pc => Nat.beq pc 14) 400 (show zif False (0 ≤ z32 ((z32 (144 + (z32 (12 * a)))) + b) ∧ z32 ((z32 (144 + (z32 (12 * a)))) + b) < 432) (if w 100 (z32 ((z32 (144 + (z32 (12 * a)))) + b)).toNat = (-1) then K (0, some (0, 0)) w 238 else K (0, some (0, 1)) w 238) from h)) h)) ?_
  rw [z32_id (x := 12 * a) ⟨by omega, by omega⟩, z32_id (x := 144 + 12 * a) ⟨by omega, by omega⟩, z32_id (x := 144 + 12 * a + b) ⟨by omega, by omega⟩]
  have e : zfw w 1 a b = w 100 (144 + 12 * a + b).toNat := rfl
  rw [e] at h
  refine zifI (by omega) ?_
  by_cases g : w 100 (144 + 12 * a + b).toNat = -1
  · rw [if_pos g] at h
    exact ziT g h
  · rw [if_neg g] at h
    exact ziF g h
noncomputable def zb224 (l0 : List zV) (w : zW) (K : zK) : Prop := cond (zpe (zar l0 0) 93) (zA l0 1 fun a => zA l0 2 fun b => ((0 ≤ a ∧ a < 12) ∧ 0 ≤ b ∧ b < 12) ∧ (K (0, some (0, (if zfw w 1 a b = -1 then 0 else 1))) (w) 238)) (False)
noncomputable def zT193 : zSum := zsm1 224 [2, 0, 0] zb224 zT192
theorem zT193_ok : zSok zT193 := zsm1_ok zT192_ok fun l0 w K h => by
  unfold zb224 at h
  cases q0 : zpe (zar l0 0) 93 with
  | true =>
    rw [q0, cond_true] at h
    have e : zar l0 0 = 93 := zpe_e q0
    show zcall 224 [(2, zar l0 0), (0, zar l0 1), (0, zar l0 2)] w 238 K
    rw [e]
    exact zk224_93 (zar l0 1) (zar l0 2) w K (zA_e (zA_e h))
  | false =>
  rw [q0, cond_false] at h
  exact h.elim
noncomputable def zT194 : zSum := zin1 225 400 zT193
theorem zT194_ok : zSok zT194 := zin1_ok zT193_ok
