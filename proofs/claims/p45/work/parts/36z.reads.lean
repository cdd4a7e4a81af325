/-! reading through a write -/
theorem rdIZ {t : sT} {f o : Nat} {v : Bool} {F O : Nat} : sI (sZw t f o v) F O = sI t F O := rfl
theorem rdIR {t : sT} {f o : Nat} {v : Option Nat} {F O : Nat} : sI (sRw t f o v) F O = sI t F O := rfl
theorem rdIA {t : sT} {k o p : Nat} {v : Int32} {F O : Nat} : sI (sAw t k o p v) F O = sI t F O := rfl
theorem rdIB {t : sT} {k o p : Nat} {v : Bool} {F O : Nat} : sI (sBw t k o p v) F O = sI t F O := rfl
theorem rdIE {t : sT} {k o p : Nat} {v : Nat × Option Nat} {F O : Nat} : sI (sEw t k o p v) F O = sI t F O := rfl
theorem rdIL {t : sT} {k o p : Nat} {v : Int64} {F O : Nat} : sI (sLw t k o p v) F O = sI t F O := rfl
theorem rdInew {t : sT} {k w : Nat} {F O : Nat} : sI (sNew t k w) F O = sI t F O := rfl
theorem rdInwa {t : sT} {k w : Nat} {F O : Nat} : sI (sNwA t k w) F O = sI t F O := rfl
theorem rdIthr {t : sT} {F O : Nat} : sI (sThr t ) F O = sI t F O := rfl
theorem rdI_F {t : sT} {f o F O : Nat} {v : Int32} (h : Nat.beq F f = false) : sI (sIw t f o v) F O = sI t F O := if_neg (fun z => Nat.ne_of_beq_eq_false h z.1)
theorem rdI_o {t : sT} {f o F O : Nat} {v : Int32} (h : Nat.beq O o = false) : sI (sIw t f o v) F O = sI t F O := if_neg (fun z => Nat.ne_of_beq_eq_false h z.2)
theorem rdI_d {t : sT} {f o F O : Nat} {v : Int32} (h : ¬ O = o) : sI (sIw t f o v) F O = sI t F O := if_neg (fun z => h z.2)
theorem rdZI {t : sT} {f o : Nat} {v : Int32} {F O : Nat} : sZ (sIw t f o v) F O = sZ t F O := rfl
theorem rdZR {t : sT} {f o : Nat} {v : Option Nat} {F O : Nat} : sZ (sRw t f o v) F O = sZ t F O := rfl
theorem rdZA {t : sT} {k o p : Nat} {v : Int32} {F O : Nat} : sZ (sAw t k o p v) F O = sZ t F O := rfl
theorem rdZB {t : sT} {k o p : Nat} {v : Bool} {F O : Nat} : sZ (sBw t k o p v) F O = sZ t F O := rfl
theorem rdZE {t : sT} {k o p : Nat} {v : Nat × Option Nat} {F O : Nat} : sZ (sEw t k o p v) F O = sZ t F O := rfl
theorem rdZL {t : sT} {k o p : Nat} {v : Int64} {F O : Nat} : sZ (sLw t k o p v) F O = sZ t F O := rfl
theorem rdZnew {t : sT} {k w : Nat} {F O : Nat} : sZ (sNew t k w) F O = sZ t F O := rfl
theorem rdZnwa {t : sT} {k w : Nat} {F O : Nat} : sZ (sNwA t k w) F O = sZ t F O := rfl
theorem rdZthr {t : sT} {F O : Nat} : sZ (sThr t ) F O = sZ t F O := rfl
theorem rdZ_F {t : sT} {f o F O : Nat} {v : Bool} (h : Nat.beq F f = false) : sZ (sZw t f o v) F O = sZ t F O := if_neg (fun z => Nat.ne_of_beq_eq_false h z.1)
theorem rdZ_o {t : sT} {f o F O : Nat} {v : Bool} (h : Nat.beq O o = false) : sZ (sZw t f o v) F O = sZ t F O := if_neg (fun z => Nat.ne_of_beq_eq_false h z.2)
theorem rdZ_d {t : sT} {f o F O : Nat} {v : Bool} (h : ¬ O = o) : sZ (sZw t f o v) F O = sZ t F O := if_neg (fun z => h z.2)
theorem rdRI {t : sT} {f o : Nat} {v : Int32} {F O : Nat} : sR (sIw t f o v) F O = sR t F O := rfl
theorem rdRZ {t : sT} {f o : Nat} {v : Bool} {F O : Nat} : sR (sZw t f o v) F O = sR t F O := rfl
theorem rdRA {t : sT} {k o p : Nat} {v : Int32} {F O : Nat} : sR (sAw t k o p v) F O = sR t F O := rfl
theorem rdRB {t : sT} {k o p : Nat} {v : Bool} {F O : Nat} : sR (sBw t k o p v) F O = sR t F O := rfl
theorem rdRE {t : sT} {k o p : Nat} {v : Nat × Option Nat} {F O : Nat} : sR (sEw t k o p v) F O = sR t F O := rfl
theorem rdRL {t : sT} {k o p : Nat} {v : Int64} {F O : Nat} : sR (sLw t k o p v) F O = sR t F O := rfl
theorem rdRnew {t : sT} {k w : Nat} {F O : Nat} : sR (sNew t k w) F O = sR t F O := rfl
theorem rdRnwa {t : sT} {k w : Nat} {F O : Nat} : sR (sNwA t k w) F O = sR t F O := rfl
theorem rdRthr {t : sT} {F O : Nat} : sR (sThr t ) F O = sR t F O := rfl
theorem rdR_F {t : sT} {f o F O : Nat} {v : Option Nat} (h : Nat.beq F f = false) : sR (sRw t f o v) F O = sR t F O := if_neg (fun z => Nat.ne_of_beq_eq_false h z.1)
theorem rdR_o {t : sT} {f o F O : Nat} {v : Option Nat} (h : Nat.beq O o = false) : sR (sRw t f o v) F O = sR t F O := if_neg (fun z => Nat.ne_of_beq_eq_false h z.2)
theorem rdR_d {t : sT} {f o F O : Nat} {v : Option Nat} (h : ¬ O = o) : sR (sRw t f o v) F O = sR t F O := if_neg (fun z => h z.2)
theorem rdAI {t : sT} {f o : Nat} {v : Int32} {K O P : Nat} : sA (sIw t f o v) K O P = sA t K O P := rfl
theorem rdAZ {t : sT} {f o : Nat} {v : Bool} {K O P : Nat} : sA (sZw t f o v) K O P = sA t K O P := rfl
theorem rdAR {t : sT} {f o : Nat} {v : Option Nat} {K O P : Nat} : sA (sRw t f o v) K O P = sA t K O P := rfl
theorem rdAB {t : sT} {k o p : Nat} {v : Bool} {K O P : Nat} : sA (sBw t k o p v) K O P = sA t K O P := rfl
theorem rdAE {t : sT} {k o p : Nat} {v : Nat × Option Nat} {K O P : Nat} : sA (sEw t k o p v) K O P = sA t K O P := rfl
theorem rdAL {t : sT} {k o p : Nat} {v : Int64} {K O P : Nat} : sA (sLw t k o p v) K O P = sA t K O P := rfl
theorem rdAnew {t : sT} {k w : Nat} {K O P : Nat} : sA (sNew t k w) K O P = sA t K O P := rfl
theorem rdAnwa {t : sT} {k w : Nat} {K O P : Nat} : sA (sNwA t k w) K O P = sA t K O P := rfl
theorem rdAthr {t : sT} {K O P : Nat} : sA (sThr t ) K O P = sA t K O P := rfl
theorem rdA_F {t : sT} {k o p K O P : Nat} {v : Int32} (h : Nat.beq K k = false) : sA (sAw t k o p v) K O P = sA t K O P := if_neg (fun z => Nat.ne_of_beq_eq_false h z.1)
theorem rdA_o {t : sT} {k o p K O P : Nat} {v : Int32} (h : Nat.beq O o = false) : sA (sAw t k o p v) K O P = sA t K O P := if_neg (fun z => Nat.ne_of_beq_eq_false h z.2.1)
theorem rdA_od {t : sT} {k o p K O P : Nat} {v : Int32} (h : ¬ O = o) : sA (sAw t k o p v) K O P = sA t K O P := if_neg (fun z => h z.2.1)
theorem rdA_p {t : sT} {k o p K O P : Nat} {v : Int32} (h : Nat.beq P p = false) : sA (sAw t k o p v) K O P = sA t K O P := if_neg (fun z => Nat.ne_of_beq_eq_false h z.2.2)
theorem rdA_d {t : sT} {k o p K O P : Nat} {v : Int32} (h : ¬ P = p) : sA (sAw t k o p v) K O P = sA t K O P := if_neg (fun z => h z.2.2)
theorem rdBI {t : sT} {f o : Nat} {v : Int32} {K O P : Nat} : sB (sIw t f o v) K O P = sB t K O P := rfl
theorem rdBZ {t : sT} {f o : Nat} {v : Bool} {K O P : Nat} : sB (sZw t f o v) K O P = sB t K O P := rfl
theorem rdBR {t : sT} {f o : Nat} {v : Option Nat} {K O P : Nat} : sB (sRw t f o v) K O P = sB t K O P := rfl
theorem rdBA {t : sT} {k o p : Nat} {v : Int32} {K O P : Nat} : sB (sAw t k o p v) K O P = sB t K O P := rfl
theorem rdBE {t : sT} {k o p : Nat} {v : Nat × Option Nat} {K O P : Nat} : sB (sEw t k o p v) K O P = sB t K O P := rfl
theorem rdBL {t : sT} {k o p : Nat} {v : Int64} {K O P : Nat} : sB (sLw t k o p v) K O P = sB t K O P := rfl
theorem rdBnew {t : sT} {k w : Nat} {K O P : Nat} : sB (sNew t k w) K O P = sB t K O P := rfl
theorem rdBnwa {t : sT} {k w : Nat} {K O P : Nat} : sB (sNwA t k w) K O P = sB t K O P := rfl
theorem rdBthr {t : sT} {K O P : Nat} : sB (sThr t ) K O P = sB t K O P := rfl
theorem rdB_F {t : sT} {k o p K O P : Nat} {v : Bool} (h : Nat.beq K k = false) : sB (sBw t k o p v) K O P = sB t K O P := if_neg (fun z => Nat.ne_of_beq_eq_false h z.1)
theorem rdB_o {t : sT} {k o p K O P : Nat} {v : Bool} (h : Nat.beq O o = false) : sB (sBw t k o p v) K O P = sB t K O P := if_neg (fun z => Nat.ne_of_beq_eq_false h z.2.1)
theorem rdB_od {t : sT} {k o p K O P : Nat} {v : Bool} (h : ¬ O = o) : sB (sBw t k o p v) K O P = sB t K O P := if_neg (fun z => h z.2.1)
theorem rdB_p {t : sT} {k o p K O P : Nat} {v : Bool} (h : Nat.beq P p = false) : sB (sBw t k o p v) K O P = sB t K O P := if_neg (fun z => Nat.ne_of_beq_eq_false h z.2.2)
theorem rdB_d {t : sT} {k o p K O P : Nat} {v : Bool} (h : ¬ P = p) : sB (sBw t k o p v) K O P = sB t K O P := if_neg (fun z => h z.2.2)
theorem rdEI {t : sT} {f o : Nat} {v : Int32} {K O P : Nat} : sE (sIw t f o v) K O P = sE t K O P := rfl
theorem rdEZ {t : sT} {f o : Nat} {v : Bool} {K O P : Nat} : sE (sZw t f o v) K O P = sE t K O P := rfl
theorem rdER {t : sT} {f o : Nat} {v : Option Nat} {K O P : Nat} : sE (sRw t f o v) K O P = sE t K O P := rfl
theorem rdEA {t : sT} {k o p : Nat} {v : Int32} {K O P : Nat} : sE (sAw t k o p v) K O P = sE t K O P := rfl
theorem rdEB {t : sT} {k o p : Nat} {v : Bool} {K O P : Nat} : sE (sBw t k o p v) K O P = sE t K O P := rfl
theorem rdEL {t : sT} {k o p : Nat} {v : Int64} {K O P : Nat} : sE (sLw t k o p v) K O P = sE t K O P := rfl
theorem rdEnew {t : sT} {k w : Nat} {K O P : Nat} : sE (sNew t k w) K O P = sE t K O P := rfl
theorem rdEnwa {t : sT} {k w : Nat} {K O P : Nat} : sE (sNwA t k w) K O P = sE t K O P := rfl
theorem rdEthr {t : sT} {K O P : Nat} : sE (sThr t ) K O P = sE t K O P := rfl
theorem rdE_F {t : sT} {k o p K O P : Nat} {v : Nat × Option Nat} (h : Nat.beq K k = false) : sE (sEw t k o p v) K O P = sE t K O P := if_neg (fun z => Nat.ne_of_beq_eq_false h z.1)
theorem rdE_o {t : sT} {k o p K O P : Nat} {v : Nat × Option Nat} (h : Nat.beq O o = false) : sE (sEw t k o p v) K O P = sE t K O P := if_neg (fun z => Nat.ne_of_beq_eq_false h z.2.1)
theorem rdE_od {t : sT} {k o p K O P : Nat} {v : Nat × Option Nat} (h : ¬ O = o) : sE (sEw t k o p v) K O P = sE t K O P := if_neg (fun z => h z.2.1)
theorem rdE_p {t : sT} {k o p K O P : Nat} {v : Nat × Option Nat} (h : Nat.beq P p = false) : sE (sEw t k o p v) K O P = sE t K O P := if_neg (fun z => Nat.ne_of_beq_eq_false h z.2.2)
theorem rdE_d {t : sT} {k o p K O P : Nat} {v : Nat × Option Nat} (h : ¬ P = p) : sE (sEw t k o p v) K O P = sE t K O P := if_neg (fun z => h z.2.2)
theorem rdLI {t : sT} {f o : Nat} {v : Int32} {K O P : Nat} : sL (sIw t f o v) K O P = sL t K O P := rfl
theorem rdLZ {t : sT} {f o : Nat} {v : Bool} {K O P : Nat} : sL (sZw t f o v) K O P = sL t K O P := rfl
theorem rdLR {t : sT} {f o : Nat} {v : Option Nat} {K O P : Nat} : sL (sRw t f o v) K O P = sL t K O P := rfl
theorem rdLA {t : sT} {k o p : Nat} {v : Int32} {K O P : Nat} : sL (sAw t k o p v) K O P = sL t K O P := rfl
theorem rdLB {t : sT} {k o p : Nat} {v : Bool} {K O P : Nat} : sL (sBw t k o p v) K O P = sL t K O P := rfl
theorem rdLE {t : sT} {k o p : Nat} {v : Nat × Option Nat} {K O P : Nat} : sL (sEw t k o p v) K O P = sL t K O P := rfl
theorem rdLnew {t : sT} {k w : Nat} {K O P : Nat} : sL (sNew t k w) K O P = sL t K O P := rfl
theorem rdLnwa {t : sT} {k w : Nat} {K O P : Nat} : sL (sNwA t k w) K O P = sL t K O P := rfl
theorem rdLthr {t : sT} {K O P : Nat} : sL (sThr t ) K O P = sL t K O P := rfl
theorem rdL_F {t : sT} {k o p K O P : Nat} {v : Int64} (h : Nat.beq K k = false) : sL (sLw t k o p v) K O P = sL t K O P := if_neg (fun z => Nat.ne_of_beq_eq_false h z.1)
theorem rdL_o {t : sT} {k o p K O P : Nat} {v : Int64} (h : Nat.beq O o = false) : sL (sLw t k o p v) K O P = sL t K O P := if_neg (fun z => Nat.ne_of_beq_eq_false h z.2.1)
theorem rdL_od {t : sT} {k o p K O P : Nat} {v : Int64} (h : ¬ O = o) : sL (sLw t k o p v) K O P = sL t K O P := if_neg (fun z => h z.2.1)
theorem rdL_p {t : sT} {k o p K O P : Nat} {v : Int64} (h : Nat.beq P p = false) : sL (sLw t k o p v) K O P = sL t K O P := if_neg (fun z => Nat.ne_of_beq_eq_false h z.2.2)
theorem rdL_d {t : sT} {k o p K O P : Nat} {v : Int64} (h : ¬ P = p) : sL (sLw t k o p v) K O P = sL t K O P := if_neg (fun z => h z.2.2)
theorem rdNI {t : sT} {f o : Nat} {v : Int32} {K O : Nat} : sN (sIw t f o v) K O = sN t K O := rfl
theorem rdNZ {t : sT} {f o : Nat} {v : Bool} {K O : Nat} : sN (sZw t f o v) K O = sN t K O := rfl
theorem rdNR {t : sT} {f o : Nat} {v : Option Nat} {K O : Nat} : sN (sRw t f o v) K O = sN t K O := rfl
theorem rdNA {t : sT} {k o p : Nat} {v : Int32} {K O : Nat} : sN (sAw t k o p v) K O = sN t K O := rfl
theorem rdNB {t : sT} {k o p : Nat} {v : Bool} {K O : Nat} : sN (sBw t k o p v) K O = sN t K O := rfl
theorem rdNE {t : sT} {k o p : Nat} {v : Nat × Option Nat} {K O : Nat} : sN (sEw t k o p v) K O = sN t K O := rfl
theorem rdNL {t : sT} {k o p : Nat} {v : Int64} {K O : Nat} : sN (sLw t k o p v) K O = sN t K O := rfl
theorem rdNnew {t : sT} {k w : Nat} {K O : Nat} : sN (sNew t k w) K O = sN t K O := rfl
theorem rdNthr {t : sT} {K O : Nat} : sN (sThr t ) K O = sN t K O := rfl
