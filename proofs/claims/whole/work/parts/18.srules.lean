theorem jR2 {M : Nat} {h : Hp} (hw : SW M h) (s : SS) : gR (ps M h s) 7 2 M = some (some (M + 1)) := ps_gR hw s (by decide)
theorem jR5 {M : Nat} {h : Hp} (hw : SW M h) (s : SS) : gR (ps M h s) 7 5 M = some (some (M + 2)) := ps_gR hw s (by decide)
theorem jR6 {M : Nat} {h : Hp} (hw : SW M h) (s : SS) : gR (ps M h s) 7 6 M = some (some (M + 3)) := ps_gR hw s (by decide)
theorem jR7 {M : Nat} {h : Hp} (hw : SW M h) (s : SS) : gR (ps M h s) 7 7 M = some (some (M + 4)) := ps_gR hw s (by decide)
theorem jR8 {M : Nat} {h : Hp} (hw : SW M h) (s : SS) : gR (ps M h s) 7 8 M = some (some (M + 5)) := ps_gR hw s (by decide)
theorem jR9 {M : Nat} {h : Hp} (hw : SW M h) (s : SS) : gR (ps M h s) 7 9 M = some (some (M + 6)) := ps_gR hw s (by decide)
theorem jR11 {M : Nat} {h : Hp} (hw : SW M h) (s : SS) : gR (ps M h s) 7 11 M = some (some (M + 7)) := ps_gR hw s (by decide)
theorem jR13 {M : Nat} {h : Hp} (hw : SW M h) (s : SS) : gR (ps M h s) 7 13 M = some (some (M + 8)) := ps_gR hw s (by decide)
theorem jl1 {M : Nat} {h : Hp} (hw : SW M h) (s : SS) (t : Nat) (i : Int32) : ldL (ps M h s) t (M + 1) i = lk7 s t 1 i := ps_lk hw s t 1 i (by decide)
theorem js1 {β : Type} {M : Nat} {h : Hp} (hw : SW M h) (s : SS) (t : Nat) (i : Int32) (v : Int64) (K : Hp → Option β) : bd (stL (ps M h s) t (M + 1) i v) K = bd (sk7 s t 1 i v) (fun s2 => K (ps M h s2)) := ps_sk hw s t 1 i v (by decide) K
theorem jc1 {β : Type} {M : Nat} {h : Hp} (hw : SW M h) (s : SS) (t : Nat) (sp dp n : Int32) (K : Hp → Option β) : bd (cpL (ps M h s) t (M + 1) (M + 1) sp dp n) K = bd (cp7 s t 1 1 sp dp n) (fun s2 => K (ps M h s2)) := ps_cp hw s t 1 1 sp dp n (by decide) K
theorem jl2 {M : Nat} {h : Hp} (hw : SW M h) (s : SS) (t : Nat) (i : Int32) : ldI (ps M h s) t (M + 2) i = ld7 s t 2 i := ps_ld hw s t 2 i (by decide)
theorem js2 {β : Type} {M : Nat} {h : Hp} (hw : SW M h) (s : SS) (t : Nat) (i v : Int32) (K : Hp → Option β) : bd (stI (ps M h s) t (M + 2) i v) K = bd (st7 s t 2 i v) (fun s2 => K (ps M h s2)) := ps_st hw s t 2 i v (by decide) K
theorem jl3 {M : Nat} {h : Hp} (hw : SW M h) (s : SS) (t : Nat) (i : Int32) : ldI (ps M h s) t (M + 3) i = ld7 s t 3 i := ps_ld hw s t 3 i (by decide)
theorem js3 {β : Type} {M : Nat} {h : Hp} (hw : SW M h) (s : SS) (t : Nat) (i v : Int32) (K : Hp → Option β) : bd (stI (ps M h s) t (M + 3) i v) K = bd (st7 s t 3 i v) (fun s2 => K (ps M h s2)) := ps_st hw s t 3 i v (by decide) K
theorem jl4 {M : Nat} {h : Hp} (hw : SW M h) (s : SS) (t : Nat) (i : Int32) : ldI (ps M h s) t (M + 4) i = ld7 s t 4 i := ps_ld hw s t 4 i (by decide)
theorem js4 {β : Type} {M : Nat} {h : Hp} (hw : SW M h) (s : SS) (t : Nat) (i v : Int32) (K : Hp → Option β) : bd (stI (ps M h s) t (M + 4) i v) K = bd (st7 s t 4 i v) (fun s2 => K (ps M h s2)) := ps_st hw s t 4 i v (by decide) K
theorem jl5 {M : Nat} {h : Hp} (hw : SW M h) (s : SS) (t : Nat) (i : Int32) : ldI (ps M h s) t (M + 5) i = ld7 s t 5 i := ps_ld hw s t 5 i (by decide)
theorem js5 {β : Type} {M : Nat} {h : Hp} (hw : SW M h) (s : SS) (t : Nat) (i v : Int32) (K : Hp → Option β) : bd (stI (ps M h s) t (M + 5) i v) K = bd (st7 s t 5 i v) (fun s2 => K (ps M h s2)) := ps_st hw s t 5 i v (by decide) K
theorem jl6 {M : Nat} {h : Hp} (hw : SW M h) (s : SS) (t : Nat) (i : Int32) : ldI (ps M h s) t (M + 6) i = ld7 s t 6 i := ps_ld hw s t 6 i (by decide)
theorem js6 {β : Type} {M : Nat} {h : Hp} (hw : SW M h) (s : SS) (t : Nat) (i v : Int32) (K : Hp → Option β) : bd (stI (ps M h s) t (M + 6) i v) K = bd (st7 s t 6 i v) (fun s2 => K (ps M h s2)) := ps_st hw s t 6 i v (by decide) K
theorem jl7 {M : Nat} {h : Hp} (hw : SW M h) (s : SS) (t : Nat) (i : Int32) : ldI (ps M h s) t (M + 7) i = ld7 s t 7 i := ps_ld hw s t 7 i (by decide)
theorem js7 {β : Type} {M : Nat} {h : Hp} (hw : SW M h) (s : SS) (t : Nat) (i v : Int32) (K : Hp → Option β) : bd (stI (ps M h s) t (M + 7) i v) K = bd (st7 s t 7 i v) (fun s2 => K (ps M h s2)) := ps_st hw s t 7 i v (by decide) K
theorem jl8 {M : Nat} {h : Hp} (hw : SW M h) (s : SS) (t : Nat) (i : Int32) : ldI (ps M h s) t (M + 8) i = ld7 s t 8 i := ps_ld hw s t 8 i (by decide)
theorem js8 {β : Type} {M : Nat} {h : Hp} (hw : SW M h) (s : SS) (t : Nat) (i v : Int32) (K : Hp → Option β) : bd (stI (ps M h s) t (M + 8) i v) K = bd (st7 s t 8 i v) (fun s2 => K (ps M h s2)) := ps_st hw s t 8 i v (by decide) K
theorem jg0 {β : Type} {M : Nat} {h : Hp} (hw : SW M h) (s : SS) (K : Int32 → Option β) : bd (gI (ps M h s) 7 0 M) K = bd (rd7 s 0) K := ps_gI hw s 0 (by decide) K
theorem jp0 {β : Type} {M : Nat} {h : Hp} (hw : SW M h) (s : SS) (v : Int32) (K : Hp → Option β) : bd (pI (ps M h s) 7 0 M v) K = bd (wr7 s 0 v) (fun s2 => K (ps M h s2)) := ps_pI hw s 0 v (by decide) K
theorem jg1 {β : Type} {M : Nat} {h : Hp} (hw : SW M h) (s : SS) (K : Int32 → Option β) : bd (gI (ps M h s) 7 1 M) K = bd (rd7 s 1) K := ps_gI hw s 1 (by decide) K
theorem jp1 {β : Type} {M : Nat} {h : Hp} (hw : SW M h) (s : SS) (v : Int32) (K : Hp → Option β) : bd (pI (ps M h s) 7 1 M v) K = bd (wr7 s 1 v) (fun s2 => K (ps M h s2)) := ps_pI hw s 1 v (by decide) K
theorem jg3 {β : Type} {M : Nat} {h : Hp} (hw : SW M h) (s : SS) (K : Int32 → Option β) : bd (gI (ps M h s) 7 3 M) K = bd (rd7 s 3) K := ps_gI hw s 3 (by decide) K
theorem jp3 {β : Type} {M : Nat} {h : Hp} (hw : SW M h) (s : SS) (v : Int32) (K : Hp → Option β) : bd (pI (ps M h s) 7 3 M v) K = bd (wr7 s 3 v) (fun s2 => K (ps M h s2)) := ps_pI hw s 3 v (by decide) K
theorem jg4 {β : Type} {M : Nat} {h : Hp} (hw : SW M h) (s : SS) (K : Int32 → Option β) : bd (gI (ps M h s) 7 4 M) K = bd (rd7 s 4) K := ps_gI hw s 4 (by decide) K
theorem jp4 {β : Type} {M : Nat} {h : Hp} (hw : SW M h) (s : SS) (v : Int32) (K : Hp → Option β) : bd (pI (ps M h s) 7 4 M v) K = bd (wr7 s 4 v) (fun s2 => K (ps M h s2)) := ps_pI hw s 4 v (by decide) K
theorem jg10 {β : Type} {M : Nat} {h : Hp} (hw : SW M h) (s : SS) (K : Int64 → Option β) : bd (gL (ps M h s) 7 10 M) K = bd (rl7 s 10) K := ps_gL hw s 10 (by decide) K
theorem jp10 {β : Type} {M : Nat} {h : Hp} (hw : SW M h) (s : SS) (v : Int64) (K : Hp → Option β) : bd (pL (ps M h s) 7 10 M v) K = bd (wl7 s 10 v) (fun s2 => K (ps M h s2)) := ps_pL hw s 10 v (by decide) K
theorem jg12 {β : Type} {M : Nat} {h : Hp} (hw : SW M h) (s : SS) (K : Int32 → Option β) : bd (gI (ps M h s) 7 12 M) K = bd (rd7 s 12) K := ps_gI hw s 12 (by decide) K
theorem jp12 {β : Type} {M : Nat} {h : Hp} (hw : SW M h) (s : SS) (v : Int32) (K : Hp → Option β) : bd (pI (ps M h s) 7 12 M v) K = bd (wr7 s 12 v) (fun s2 => K (ps M h s2)) := ps_pI hw s 12 v (by decide) K
