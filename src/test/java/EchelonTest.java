/** Promise 10: echelon. */
public final class EchelonTest {
    public static void main(String[] args) {
        Check check = new Check();
        known(check);
        drawn(check);
        registers(check);
        weight(check);
        check.end("EchelonTest");
    }

    /** Promise 10: "The echelon form: the rank." */
    private static void known(Check check) {
        known(check, "1 2 3; 4 5 6; 7 8 9", 2, "1 0 -1; 0 1 2; 0 0 0");
        known(check, "0 0 2 4; 0 3 0 1", 2, "0 1 0 1/3; 0 0 1 2");
        known(check, "1/2 1/3; 1/4 1/6", 1, "1 2/3; 0 0");
        known(check, "0 0; 0 0; 0 0", 0, "0 0; 0 0; 0 0");
        known(check, "0", 0, "0");
        known(check, "-7/3", 1, "1");
        known(check, "0 0 -5", 1, "0 0 1");
        known(check, "0; -2; 4", 1, "1; 0; 0");
        known(check, "2 1; 1 1; 0 7", 2, "1 0; 0 1; 0 0");
        known(check, "0 0 0; 0 0 5; 0 0 0", 1, "0 0 1; 0 0 0; 0 0 0");
        known(check, "0 0 1; 0 1 0; 1 0 0", 3, "1 0 0; 0 1 0; 0 0 1");
        known(check, "0 1 2 0 3; 0 2 4 0 6; 0 0 0 0 1; 0 1 2 1 3", 3,
            "0 1 2 0 0; 0 0 0 1 0; 0 0 0 0 1; 0 0 0 0 0");
    }

    private static void known(Check check, String from, int rank, String want) {
        Counted forms = new Counted();
        Check.put(forms, 0, from);
        check.due("rank of " + from, forms.echelon(1, 0), rank);
        check.register("echelon form of " + from, forms, 1, want);
        check.register("it stays", forms, 0, from);
        check.due("rank of " + from, forms.echelon(0, 0), rank);
        check.register("echelon form to its own", forms, 0, want);
        check.due("again", forms.echelon(0, 0), rank);
        check.register("a form is its own form", forms, 0, want);
    }

    private static void drawn(Check check) {
        Draws draws = new Draws(10);
        for (int round = 0; round < 200; round++) {
            int rows = draws.upTo(round % 10 == 0 ? 16 : 6);
            int columns = draws.upTo(round % 10 == 0 ? 16 : 6);
            Ratio[][] m = round % 2 == 0 ? draws.fractions(rows, columns, 4, round % 7)
                : Model.fractions(draws.ofRank(rows, columns, draws.upTo(3), 40));
            compare(check, "drawn " + round, m);
        }
        compare(check, "16 by 16 at the bound", Model.fractions(draws.wholes(16, 16, 121, 4)));
        compare(check, "12 by 16 at the bound", Model.fractions(draws.wholes(12, 16, 162, 4)));
        compare(check, "16 by 8 at the bound", Model.fractions(draws.wholes(16, 8, 247, 4)));
        compare(check, "2 by 16 at the bound", Model.fractions(draws.wholes(2, 16, 999, 4)));
        compare(check, "1 by 16 at the bound", Model.fractions(draws.wholes(1, 16, 2000, 4)));
    }

    private static void compare(Check check, String what, Ratio[][] m) {
        Counted forms = new Counted();
        Model model = new Model();
        Check.put(forms, 0, m);
        model.registers[0] = m;
        check.due(what, forms.echelon(1, 0), model.echelon(1, 0));
        check.register(what, forms, 1, model.registers[1]);
    }

    /** Promise 10: "IndexOutOfBoundsException;" */
    private static void registers(Check check) {
        Bounds.registers(check, "echelon", 2, (forms, r) -> forms.echelon(r[0], r[1]));
        Counted forms = new Counted();
        Check.power(forms, 1, 2, 1, 2000);
        for (int r : new int[] {-1, 8}) {
            check.refused("it is named before WEIGHT", forms, Check.INDEX, () -> forms.echelon(r, 1));
        }
    }

    /** Promise 10: "UnsupportedOperationException, WEIGHT." */
    private static void weight(Check check) {
        WeightCheck weight = new WeightCheck(check, "echelon", f -> f.echelon(2, 0), m -> m.echelon(2, 0));
        weight.ofAnyShape();
        weight.rowsMadeWhole();
        Counted forms = new Counted();
        Check.power(forms, 1, 2, 1, 2000);
        check.refused("to its own", forms, Check.UNSUPPORTED, () -> forms.echelon(1, 1));
    }
}
