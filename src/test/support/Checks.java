/** What the tests with answers by hand share: the counting of checks, and pages that many of them begin with. */
class Checks {
    static final int NONE = -1;
    static final int MIN = Integer.MIN_VALUE;
    static final int MAX = Integer.MAX_VALUE;

    private static int passed = 0;
    private static int failed = 0;
    private static int tests = 0;
    private static String test = "";

    static void due(String what, long got, long want) {
        if (got == want) {
            passed++;
            return;
        }
        fail(what + " answered " + got + ", due is " + want);
    }

    static void yes(String what, boolean got) {
        due(what, got ? 1 : 0, 1);
    }

    static void no(String what, boolean got) {
        due(what, got ? 1 : 0, 0);
    }

    /** One test by its name; one that checks nothing would hold for any program, so it fails. */
    static void test(String name, Runnable body) {
        int before = passed + failed;
        tests++;
        test = name + ": ";
        body.run();
        if (passed + failed == before) {
            fail("nothing is checked");
        }
        test = "";
    }

    private static void fail(String text) {
        failed++;
        System.out.println(test + text);
    }

    static void end(String name) {
        String of = tests == 0 ? "" : " in " + tests + " tests";
        System.out.println(name + ": " + passed + " checks held" + of + ", " + failed + " did not");
        if (failed != 0) {
            System.exit(1);
        }
    }

    /** A page that has one box of one colour all over. */
    static InkOverInk full(int rows, int columns, int colour) {
        InkOverInk x = new InkOverInk();
        x.page(rows, columns);
        x.shape(0, 0, 0, rows, columns, colour, false);
        return x;
    }

    /** A page of one row, each cell a box of its own; number and column are the same. */
    static InkOverInk row(int... colours) {
        InkOverInk x = new InkOverInk();
        x.page(1, colours.length);
        for (int column = 0; column < colours.length; column++) {
            x.shape(0, 0, column, 1, 1, colours[column], false);
        }
        return x;
    }

    /** A row of six cells: three of ink 0 alone, then three of ink 3 alone. */
    static InkOverInk lightBesideDark() {
        InkOverInk x = new InkOverInk();
        x.page(1, 6);
        x.shape(0, 0, 0, 1, 3, 1, false);
        x.shape(0, 0, 3, 1, 3, 8, false);
        return x;
    }

    /** The columns of a row that show an ink, as bits. */
    static int shown(InkOverInk x, int ink, int row) {
        int bits = 0;
        int columns = x.count(9);
        for (int column = 0; column < columns; column++) {
            bits |= (x.cell(row, column, 4) >> ink & 1) << column;
        }
        return bits;
    }
}
