/-- the start -/
def S0 : PS := (fun k => ([1, 0, 200, 4, 1, 0, 0, 0] : List Int32).getD k 0, fun a => if a = 0 then upd (fun _ => 0) (0 : Int32).toNatClampNeg (-1) else if a = 2 then upd (fun _ => 0) (0 : Int32).toNatClampNeg 1 else fun _ => 0)
def M0 : PS := (fun k => ([0, 1, 0, 200, 4, 1, 0, 0] : List Int32).getD k 0, fun a => if a = 0 then upd (fun _ => 0) (0 : Int32).toNatClampNeg (-1) else fun _ => 0)
