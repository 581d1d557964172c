theorem pm_last : True := trivial
