theorem tt_05 : True := trivial
