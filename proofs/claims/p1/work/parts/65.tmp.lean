theorem tmp_65 : True := trivial
