/** Each promise by itself, with answers worked out by hand from the document. */
public final class PromiseTest extends Checks {
    private static int seenOf(int kind, int height, int width) {
        InkOverInk x = new InkOverInk();
        x.page(16, 16);
        return x.tell(x.shape(kind, 0, 0, height, width, 1, false), 8);
    }

    private static void promise1() {
        InkOverInk x = new InkOverInk();
        due("1 NONE", InkOverInk.NONE, -1);
        int[] first = {0, 0, 0, 0, 0, 0, 0, 0, 8, 8, 0};
        for (int what = 0; what < first.length; what++) {
            due("1 count " + what, x.count(what), first[what]);
        }
        for (int k = 0; k < 4; k++) {
            no("1 again " + k, x.again(k));
        }
        due("1 safe of an empty page", x.safe(), 6);
        due("1 cell's shape", x.cell(7, 7, 2), NONE);
        due("1 cell's colour", x.cell(7, 7, 0), 0);
        due("1 no ninth row", x.cell(8, 7, 0), NONE);
        no("1 weights: ink 2 is not lighter than inks 0 and 1", x.lighter(4, 3));
        yes("1 weights: of 4 and 4 the lesser colour", x.lighter(3, 4));
        yes("1 weights: 7 inks weigh 8, as ink 3 does", x.lighter(7, 8));
        no("1 weights: 9 is above 8", x.lighter(9, 8));
    }

    private static void promise2() {
        InkOverInk x = new InkOverInk();
        x.shape(0, 0, 0, 32, 32, 1, false);
        due("2 eight by eight", x.tell(0, 8), 64);
        yes("2 page 16 16", x.page(16, 16));
        due("2 shapes stay", x.tell(0, 8), 256);
        yes("2 page 1 16", x.page(1, 16));
        due("2 rows", x.count(8), 1);
        due("2 columns", x.count(9), 16);
        yes("2 page 16 1", x.page(16, 1));
        due("2 the last row", x.cell(15, 0, 0), 1);
        due("2 no second column", x.cell(0, 1, 0), NONE);
        int[][] wrong = {{0, 8}, {8, 0}, {17, 8}, {8, 17}, {-1, 8}, {8, -1}, {MIN, MAX}, {MAX, MIN}};
        for (int[] w : wrong) {
            no("2 page " + w[0] + " " + w[1], x.page(w[0], w[1]));
        }
        due("2 rows stay", x.count(8), 16);
        due("2 columns stay", x.count(9), 1);
    }

    private static void promise3() {
        InkOverInk x = lightBesideDark();
        yes("3 at first", x.lighter(1, 8));
        yes("3 weight 0 20", x.weight(0, 20));
        yes("3 weight 3 0", x.weight(3, 0));
        no("3 heavier now", x.lighter(1, 8));
        yes("3 lighter now", x.lighter(8, 1));
        int[][] wrong = {{-1, 3}, {4, 3}, {0, -1}, {0, 21}, {MIN, 0}, {MAX, 0}, {0, MIN}, {0, MAX}};
        for (int[] w : wrong) {
            no("3 weight " + w[0] + " " + w[1], x.weight(w[0], w[1]));
        }
        yes("3 stays", x.lighter(8, 1));
        due("3 the dark one is under the light one now", x.trap(1), 1);
        due("3 plate 3 grew", x.plate(3, 0), 0b111100);
        x.weight(0, 1);
        x.weight(3, 8);
        due("3 plates follow the weights", x.plate(3, 0), 0b111000);
        due("3 plate 0 grew", x.plate(0, 0), 0b001111);
    }

    private static void promise4() {
        InkOverInk x = new InkOverInk();
        int[][] wrong = {
            {-1, 0, 0, 1, 1, 1}, {4, 0, 0, 1, 1, 1}, {0, -17, 0, 1, 1, 1}, {0, 32, 0, 1, 1, 1},
            {0, 0, -17, 1, 1, 1}, {0, 0, 32, 1, 1, 1}, {0, 0, 0, 0, 1, 1}, {0, 0, 0, 33, 1, 1},
            {0, 0, 0, 1, 0, 1}, {0, 0, 0, 1, 33, 1}, {0, 0, 0, 1, 1, -1}, {0, 0, 0, 1, 1, 16},
            {MIN, MIN, MIN, MIN, MIN, MIN}, {MAX, MAX, MAX, MAX, MAX, MAX}};
        for (int[] w : wrong) {
            due("4 wrong " + java.util.Arrays.toString(w),
                    x.shape(w[0], w[1], w[2], w[3], w[4], w[5], false), NONE);
        }
        due("4 none came", x.count(6), 0);
        due("4 the first", x.shape(0, -16, -16, 32, 32, 15, false), 0);
        due("4 the second", x.shape(3, 31, 31, 1, 1, 0, true), 1);
        due("4 the first is seen", x.tell(0, 8), 64);
        due("4 the second is not", x.tell(1, 8), 0);
        due("4 the third", x.shape(0, 2, 2, 1, 1, 4, true), 2);
        due("4 uppermost", x.cell(2, 2, 2), 2);
        x.take(1);
        for (int number = 3; number < 30; number++) {
            due("4 number", x.shape(0, 0, 0, 1, 1, 1, false), number);
        }
        due("4 there are 30, one taken away", x.shape(0, 0, 0, 1, 1, 1, false), NONE);
        due("4 29 lie", x.count(6), 29);
    }

    private static void promise4Kinds() {
        int[][] kinds = {
            {0, 1, 1, 1}, {0, 3, 4, 12}, {0, 32, 32, 256},
            {1, 1, 1, 1}, {1, 3, 3, 9}, {1, 4, 4, 12}, {1, 5, 5, 21}, {1, 2, 4, 8}, {1, 2, 8, 12}, {1, 8, 2, 12},
            {2, 1, 1, 1}, {2, 3, 3, 6}, {2, 2, 4, 6}, {2, 4, 2, 4},
            {3, 1, 1, 1}, {3, 2, 5, 10}, {3, 3, 3, 8}, {3, 4, 4, 12}, {3, 32, 32, 31}};
        for (int[] k : kinds) {
            due("4 kind " + k[0] + " of " + k[1] + " by " + k[2], seenOf(k[0], k[1], k[2]), k[3]);
        }
        InkOverInk x = new InkOverInk();
        x.shape(2, 1, 1, 4, 2, 1, false);
        int[] corner = {0, 0b110, 0b100, 0b100, 0, 0, 0, 0};
        for (int row = 0; row < 8; row++) {
            due("4 corner's row " + row, x.plate(0, row), corner[row]);
        }
    }

    private static void promise5() {
        InkOverInk x = new InkOverInk();
        x.shape(0, 0, 0, 1, 2, 1, false);
        x.shape(0, 0, 0, 1, 1, 2, false);
        x.shape(0, 0, 1, 1, 1, 4, false);
        yes("5 take 1", x.take(1));
        no("5 it was", x.take(1));
        due("5 shows what lay under", x.cell(0, 0, 2), 0);
        due("5 two lie", x.count(6), 2);
        due("5 one under the third", x.tell(2, 7), 1);
        int[] wrong = {-1, 3, 29, 30, MIN, MAX};
        for (int w : wrong) {
            no("5 take " + w, x.take(w));
        }
        due("5 numbers are not used again", x.shape(0, 0, 0, 1, 1, 2, false), 3);
    }

    private static void promise6() {
        InkOverInk x = new InkOverInk();
        x.shape(0, 0, 0, 2, 2, 5, false);
        x.shape(0, 0, 0, 1, 1, 2, false);
        yes("6 move", x.move(0, 3, 4));
        due("6 row", x.tell(0, 1), 3);
        due("6 column", x.tell(0, 2), 4);
        due("6 gone from there", x.cell(1, 1, 0), 0);
        due("6 there now", x.cell(4, 5, 0), 5);
        yes("6 where it is", x.move(0, 3, 4));
        yes("6 least", x.move(0, -16, -16));
        yes("6 most", x.move(0, 31, 31));
        int[][] wrong = {{0, -17, 0}, {0, 32, 0}, {0, 0, -17}, {0, 0, 32}, {-1, 0, 0}, {2, 0, 0}, {30, 0, 0},
            {0, MIN, MAX}, {MIN, 0, 0}, {MAX, 0, 0}};
        for (int[] w : wrong) {
            no("6 move " + java.util.Arrays.toString(w), x.move(w[0], w[1], w[2]));
        }
        due("6 row stays", x.tell(0, 1), 31);
        due("6 still lowest", x.tell(0, 7), 0);
        x.take(0);
        no("6 taken away", x.move(0, 0, 0));
    }

    private static void promise7() {
        InkOverInk x = new InkOverInk();
        for (int colour = 1; colour <= 4; colour++) {
            x.shape(0, 0, 0, 1, 1, colour, false);
        }
        no("7 the uppermost", x.lift(3, true));
        no("7 the lowest", x.lift(0, false));
        yes("7 down", x.lift(3, false));
        due("7 another is seen", x.cell(0, 0, 2), 2);
        due("7 two under it", x.tell(3, 7), 2);
        x.take(2);
        due("7 it is seen now", x.cell(0, 0, 2), 3);
        no("7 uppermost again", x.lift(3, true));
        yes("7 up over the taken place", x.lift(0, true));
        due("7 one under it", x.tell(0, 7), 1);
        due("7 none under that", x.tell(1, 7), 0);
        int[] wrong = {-1, 2, 4, 30, MIN, MAX};
        for (int w : wrong) {
            no("7 lift up " + w, x.lift(w, true));
            no("7 lift down " + w, x.lift(w, false));
        }
    }

    private static void promise8() {
        InkOverInk x = new InkOverInk();
        x.shape(0, 0, 0, 1, 1, 1, false);
        yes("8 paint", x.paint(0, 15, true));
        due("8 colour", x.tell(0, 5), 15);
        due("8 fine", x.tell(0, 6), 1);
        due("8 cell's colour", x.cell(0, 0, 0), 15);
        due("8 cell is fine", x.cell(0, 0, 1), 1);
        yes("8 paper", x.paint(0, 0, false));
        due("8 paper is seen", x.cell(0, 0, 2), 0);
        due("8 but is paper", x.count(0), 0);
        int[][] wrong = {{0, -1}, {0, 16}, {0, MIN}, {0, MAX}, {-1, 3}, {1, 3}, {30, 3}, {MIN, 3}, {MAX, 3}};
        for (int[] w : wrong) {
            no("8 paint " + w[0] + " " + w[1], x.paint(w[0], w[1], true));
        }
        due("8 not fine", x.tell(0, 6), 0);
        x.take(0);
        no("8 taken away", x.paint(0, 3, true));
    }

    private static void promise9() {
        InkOverInk x = new InkOverInk();
        x.shape(0, 0, 0, 8, 8, 1, false);
        x.shape(3, -2, 5, 4, 6, 9, true);
        int[] told = {3, -2, 5, 4, 6, 9, 1, 1, 4};
        for (int what = 0; what < told.length; what++) {
            due("9 tell " + what, x.tell(1, what), told[what]);
        }
        due("9 the other one is seen on the rest", x.tell(0, 8), 60);
        x.lift(0, true);
        due("9 it lies over it now", x.tell(0, 7), 1);
        due("9 not seen at all", x.tell(1, 8), 0);
        int[] wrong = {-1, 9, MIN, MAX};
        for (int w : wrong) {
            due("9 what " + w, x.tell(1, w), NONE);
            due("9 shape " + w, x.tell(w, 0), NONE);
        }
        due("9 not made yet", x.tell(2, 5), NONE);
        x.take(1);
        for (int what = 0; what < told.length; what++) {
            due("9 not any more " + what, x.tell(1, what), NONE);
        }
    }

    private static void promise10() {
        InkOverInk x = lightBesideDark();
        x.paint(1, 10, true);
        x.off(0, 0, 1);
        int[][] cells = {
            {1, 0, 0, 1, 0, 1, 1}, {1, 0, 0, 1, 1, 0, 0}, {1, 0, 0, 1, 1, 0, 0},
            {10, 1, 1, 10, 11, 0, 1}, {10, 1, 1, 10, 10, 0, 0}, {10, 1, 1, 10, 10, 0, 0}};
        for (int column = 0; column < cells.length; column++) {
            for (int what = 0; what < 7; what++) {
                due("10 cell " + column + " what " + what, x.cell(0, column, what), cells[column][what]);
            }
        }
        int[][] wrong = {{-1, 0, 0}, {1, 0, 0}, {0, -1, 0}, {0, 6, 0}, {0, 0, -1}, {0, 0, 7},
            {MIN, 0, 0}, {0, MAX, 0}, {0, 0, MIN}, {0, 0, MAX}};
        for (int[] w : wrong) {
            due("10 " + java.util.Arrays.toString(w), x.cell(w[0], w[1], w[2]), NONE);
        }
        x.take(1);
        due("10 no shape", x.cell(0, 3, 2), NONE);
        due("10 paper that shows an ink is not bare", x.cell(0, 3, 5), 0);
        due("10 but wrong", x.cell(0, 3, 6), 1);
        due("10 paper is not fine", x.cell(0, 3, 1), 0);
        x.paint(0, 0, true);
        due("10 a fine shape of paper", x.cell(0, 0, 1), 1);
        due("10 is not bare", x.cell(0, 0, 5), 0);
    }

    private static void promise10LackingInk() {
        InkOverInk x = new InkOverInk();
        x.page(1, 1);
        x.shape(0, 0, 0, 1, 1, 3, false);
        x.off(1, 1, 0);
        due("10 shows one of its two inks", x.cell(0, 0, 4), 1);
        due("10 so it is not bare", x.cell(0, 0, 5), 0);
        due("10 but wrong: other inks than its colour has", x.cell(0, 0, 6), 1);
    }

    private static void promise11() {
        InkOverInk x = new InkOverInk();
        x.page(5, 5);
        x.shape(0, 0, 0, 5, 5, 1, false);
        yes("11 the middle for 2", x.inner(2, 2, 2));
        no("11 the middle for 3", x.inner(2, 2, 3));
        no("11 beside it for 2", x.inner(2, 1, 2));
        yes("11 beside it for 1", x.inner(2, 1, 1));
        yes("11 the corner for 0", x.inner(0, 0, 0));
        no("11 the corner for 1", x.inner(0, 0, 1));
        no("11 for 15", x.inner(2, 2, 15));
        int[][] wrong = {{2, 2, -1}, {2, 2, 16}, {-1, 2, 0}, {5, 2, 0}, {2, -1, 0}, {2, 5, 0},
            {2, 2, MIN}, {2, 2, MAX}, {MIN, 2, 0}, {2, MAX, 0}};
        for (int[] w : wrong) {
            no("11 " + java.util.Arrays.toString(w), x.inner(w[0], w[1], w[2]));
        }
        x.shape(0, 4, 4, 1, 1, 2, true);
        no("11 a fine one two away", x.inner(2, 2, 2));
        yes("11 none one away", x.inner(2, 2, 1));
        no("11 the fine one itself", x.inner(4, 4, 0));
        x.paint(1, 2, false);
        yes("11 not fine", x.inner(2, 2, 2));
        x.paint(1, 0, false);
        no("11 paper two away", x.inner(2, 2, 2));
        no("11 paper itself", x.inner(4, 4, 0));
    }

    private static void promise12() {
        InkOverInk x = new InkOverInk();
        yes("12 paper", x.lighter(0, 1));
        no("12 none is lighter than itself", x.lighter(5, 5));
        yes("12 alike: the lesser", x.lighter(7, 8));
        no("12 alike: the greater", x.lighter(8, 7));
        x.weight(3, 0);
        yes("12 ink without weight", x.lighter(8, 1));
        yes("12 as paper weighs, but paper is lesser", x.lighter(0, 8));
        int[] wrong = {-1, 16, MIN, MAX};
        for (int w : wrong) {
            no("12 a " + w, x.lighter(w, 15));
            no("12 b " + w, x.lighter(0, w));
        }
    }

    private static void promise13() {
        InkOverInk x = lightBesideDark();
        int[] more = {0, 1, 2, 3, 3, 3, 3};
        for (int w = 6; w >= 0; w--) {
            due("13 trap " + w, x.trap(w), more[w]);
            due("13 w", x.count(7), w);
            due("13 plate 0", x.plate(0, 0), (1 << 3 + more[w]) - 1);
            due("13 plate 3", x.plate(3, 0), 0b111000);
        }
        x.trap(2);
        due("13 again the same: not what is new", x.trap(2), 2);
        int[] wrong = {-1, 7, MIN, MAX};
        for (int w : wrong) {
            due("13 trap " + w, x.trap(w), NONE);
        }
        due("13 w stays", x.count(7), 2);
        x.paint(0, 1, true);
        due("13 a fine one does not grow", x.trap(2), 0);
        x.paint(0, 1, false);
        due("13 plates follow", x.plate(0, 0), 0b11111);
        x.paint(1, 8, true);
        due("13 nor under a fine one", x.trap(2), 0);
        x.take(1);
        due("13 nor over paper", x.trap(2), 0);
    }

    private static void promise13Inks() {
        InkOverInk x = new InkOverInk();
        x.page(3, 3);
        x.shape(0, 0, 0, 3, 3, 8, false);
        x.shape(0, 1, 1, 1, 1, 3, false);
        due("13 two inks to eight cells around", x.trap(1), 16);
        due("13 plate 1", x.plate(1, 0), 7);
        x.paint(0, 9, false);
        due("13 one ink is there already", x.trap(1), 8);
        x.paint(0, 4, false);
        due("13 darkness alike, the lesser one grows", x.trap(1), 16);
        x.paint(0, 3, false);
        due("13 the same colour does not", x.trap(1), 0);
        x.paint(0, 1, false);
        due("13 the lighter one around grows in", x.trap(1), 0);
        x.paint(0, 2, false);
        x.paint(1, 5, false);
        due("13 as ink 1 under inks 0 and 2", x.trap(1), 1);
        due("13 there", x.cell(1, 1, 3), 7);
        x.trap(0);
        due("13 not without", x.cell(1, 1, 3), 5);
    }

    private static void promise14() {
        InkOverInk x = lightBesideDark();
        yes("14 off", x.off(3, 0, 1));
        due("14 nothing shows there", x.cell(0, 3, 4), 0);
        due("14 bare", x.count(1), 1);
        due("14 wrong", x.count(2), 1);
        due("14 the plate stays", x.plate(3, 0), 0b111000);
        yes("14 to the left", x.off(3, 0, -1));
        due("14 both show", x.cell(0, 2, 4), 9);
        due("14 none from outside", x.cell(0, 5, 4), 0);
        due("14 bare", x.count(1), 1);
        due("14 wrong", x.count(2), 2);
        yes("14 farthest", x.off(3, 6, -6));
        yes("14 and back", x.off(3, -6, 6));
        int[][] wrong = {{-1, 0, 0}, {4, 0, 0}, {0, -7, 0}, {0, 7, 0}, {0, 0, -7}, {0, 0, 7},
            {MIN, 0, 0}, {MAX, 0, 0}, {0, MIN, MAX}};
        for (int[] w : wrong) {
            no("14 off " + java.util.Arrays.toString(w), x.off(w[0], w[1], w[2]));
        }
        due("14 ink 0 lies right", x.cell(0, 0, 4), 1);
        x.page(3, 6);
        x.off(0, 2, 0);
        due("14 down", x.cell(2, 0, 4), 1);
        x.move(0, 2, 0);
        x.off(0, -1, 0);
        due("14 up", x.cell(1, 0, 4), 1);
    }

    private static void promise15() {
        InkOverInk x = new InkOverInk();
        x.page(1, 16);
        x.shape(0, 0, 0, 1, 16, 1, false);
        yes("15 creep 8", x.creep(8));
        due("15 all shows its first column", x.count(1), 0);
        yes("15 creep -8", x.creep(-8));
        due("15 every second column shows", x.count(1), 8);
        due("15 creep is told", x.count(10), -8);
        int[] wrong = {-9, 9, MIN, MAX};
        for (int w : wrong) {
            no("15 creep " + w, x.creep(w));
        }
        due("15 creep stays", x.count(10), -8);
        x.take(0);
        x.shape(0, 0, 1, 1, 1, 1, false);
        x.creep(-4);
        due("15 cut towards 0", x.count(2), 0);
        x.creep(7);
        due("15 cut towards 0 too", x.count(1), 0);
        due("15 column 2 less 14 / 8", x.cell(0, 2, 4), 1);
        due("15 column 3 less 21 / 8", x.cell(0, 3, 4), 1);
        due("15 column 9 less 63 / 8", x.cell(0, 9, 4), 0);
        due("15 column 8 less 56 / 8", x.cell(0, 8, 4), 1);
        x.off(0, 0, 1);
        due("15 and off besides", x.cell(0, 9, 4), 1);
        due("15 and off besides, outside", x.cell(0, 1, 4), 0);
    }

    private static void promise16() {
        InkOverInk x = lightBesideDark();
        for (int ink = 0; ink < 4; ink++) {
            x.off(ink, ink - 3, 2);
        }
        x.trap(1);
        x.creep(5);
        due("16 ink 0 is three rows up", x.cell(0, 1, 4), 0);
        x.right();
        due("16 and shows again", x.cell(0, 1, 4), 1);
        due("16 reach", x.count(3), 0);
        due("16 creep", x.count(10), 0);
        due("16 bare", x.count(1), 0);
        due("16 w stays", x.count(7), 1);
        due("16 what the trap adds is wrong", x.count(2), 1);
    }

    private static void promise17() {
        InkOverInk x = lightBesideDark();
        x.page(3, 7);
        x.shape(0, 1, 0, 1, 4, 7, false);
        x.shape(0, 2, 0, 1, 2, 0, true);
        x.take(3);
        x.trap(1);
        x.off(1, -1, 0);
        x.creep(-3);
        x.creep(0);
        due("17 not paper", x.count(0), 10);
        due("17 bare", x.count(1), 0);
        // Colour 7 weighs as 8 and is lesser: its three inks grow under cells 3 and 4 of the first row.
        due("17 plates", x.count(4), 3 + 3 + 3 * 4 + 3 * 2);
        due("17 shapes", x.count(6), 3);
        due("17 w", x.count(7), 1);
        due("17 rows", x.count(8), 3);
        due("17 columns", x.count(9), 7);
        due("17 creep", x.count(10), 0);
        int[] wrong = {-1, 11, MIN, MAX};
        for (int w : wrong) {
            due("17 what " + w, x.count(w), NONE);
        }
    }

    private static void promise17Reach() {
        InkOverInk x = new InkOverInk();
        x.off(0, -5, 2);
        due("17 reach of rows", x.count(3), 5);
        x.creep(8);
        due("17 reach with creep", x.count(3), 9);
        x.page(1, 1);
        due("17 the first column does not creep", x.count(3), 5);
        x.page(1, 8);
        x.creep(-8);
        due("17 another ink reaches farther", x.count(3), 7);
        x.right();
        x.off(2, 1, -6);
        x.creep(-1);
        due("17 7 / 8 is no column", x.count(3), 6);
        x.page(1, 9);
        due("17 8 / 8 is one", x.count(3), 7);
    }

    private static void promise17Crowded() {
        InkOverInk x = new InkOverInk();
        x.page(1, 4);
        int[] colours = {15, 7, 12, 0};
        for (int column = 0; column < 4; column++) {
            x.shape(0, 0, column, 1, 1, colours[column], false);
        }
        due("17 more than two", x.count(5), 2);
        x.off(0, 0, 2);
        due("17 the third shows three now", x.cell(0, 2, 4), 13);
        due("17 only the first and third", x.count(5), 2);
        due("17 ink 0 is where it should not be, or lacks", x.count(2), 4);
    }

    private static void promise18() {
        InkOverInk x = lightBesideDark();
        x.off(0, 3, 3);
        x.creep(8);
        int[][] cases = {{3, 0, 1, 1}, {3, 0, -1, 1}, {0, 0, 1, 1}, {0, 1, 0, 3}, {0, -6, 0, 3}, {1, 6, 6, 0},
            {3, 0, 6, 3}, {3, 0, 0, 0}, {3, 0, -2, 2}};
        for (int[] c : cases) {
            due("18 bare " + java.util.Arrays.toString(c), x.bare(c[0], c[1], c[2]), c[3]);
        }
        x.trap(2);
        due("18 trapped", x.bare(3, 0, 2), 0);
        due("18 too far", x.bare(3, 0, 3), 1);
        due("18 the light one", x.bare(0, 0, -2), 0);
        due("18 the light one too far", x.bare(0, 0, -3), 1);
        int[][] wrong = {{-1, 0, 0}, {4, 0, 0}, {0, -7, 0}, {0, 7, 0}, {0, 0, -7}, {0, 0, 7},
            {MIN, 0, 0}, {MAX, 0, 0}, {0, MIN, MAX}};
        for (int[] w : wrong) {
            due("18 bare " + java.util.Arrays.toString(w), x.bare(w[0], w[1], w[2]), NONE);
        }
        due("18 ink 0 still lies off", x.count(3), 3 + 5);
    }

    private static void promise18Ways() {
        // Where another plate covers one side alone, the two ways of lying off differ.
        InkOverInk x = new InkOverInk();
        x.page(2, 1);
        x.shape(0, 0, 0, 1, 1, 1, false);
        x.shape(0, 1, 0, 1, 1, 3, false);
        due("18 down", x.bare(0, 1, 0), 1);
        due("18 up", x.bare(0, -1, 0), 0);
        x.page(1, 2);
        x.move(1, 0, 1);
        due("18 to the right", x.bare(0, 0, 1), 1);
        due("18 to the left", x.bare(0, 0, -1), 0);
        due("18 the other ink is not alone anywhere", x.bare(1, 6, 6), 0);
    }

    private static void promise19() {
        InkOverInk x = new InkOverInk();
        x.page(16, 16);
        x.shape(0, 0, 0, 16, 8, 1, false);
        x.shape(0, 0, 8, 16, 8, 8, false);
        x.off(2, 6, 6);
        x.creep(8);
        for (int w = 0; w <= 6; w++) {
            x.trap(w);
            due("19 trapped by " + w, x.safe(), w);
        }
        x.trap(0);
        x.paint(1, 9, false);
        due("19 an ink in common lies under all", x.safe(), 6);
        x.paint(1, 8, true);
        due("19 a fine one: no inner cells near the side", x.safe(), 6);
        x.paint(1, 8, false);
        due("19 gaps open", x.safe(), 0);
        x.page(2, 2);
        due("19 no inner cells but for 0", x.safe(), 6);
        x.page(16, 16);
        x.trap(2);
        x.page(5, 16);
        due("19 no inner cells beyond 2", x.safe(), 6);
    }

    private static void promise20() {
        InkOverInk x = new InkOverInk();
        x.page(2, 16);
        x.shape(0, 1, 0, 1, 16, 2, false);
        due("20 all of the row", x.plate(1, 1), 0xffff);
        due("20 nothing", x.plate(1, 0), 0);
        due("20 another ink", x.plate(0, 1), 0);
        x.off(1, 1, 1);
        due("20 however it lies", x.plate(1, 1), 0xffff);
        int[][] wrong = {{-1, 0}, {4, 0}, {0, -1}, {0, 2}, {MIN, 0}, {MAX, 0}, {0, MIN}, {0, MAX}};
        for (int[] w : wrong) {
            due("20 plate " + w[0] + " " + w[1], x.plate(w[0], w[1]), NONE);
        }
    }

    private static void promises21And22() {
        InkOverInk x = lightBesideDark();
        int[] wrong = {-1, 4, MIN, MAX};
        for (int w : wrong) {
            no("21 image " + w, x.image(w));
            no("22 again " + w, x.again(w));
        }
        no("22 none yet", x.again(3));
        yes("21 an image", x.image(3));
        no("22 another is none", x.again(0));
        changeAll(x);
        yes("21 a second one", x.image(0));
        yes("22 the first", x.again(3));
        checkFirst(x);
        yes("22 the second", x.again(0));
        checkSecond(x);
        x.right();
        x.weight(0, 1);
        yes("22 an image stays as it was", x.again(0));
        checkSecond(x);
        yes("22 and so do others", x.again(3));
        checkFirst(x);
        due("22 numbers go on from there", x.shape(0, 0, 0, 1, 1, 1, false), 2);
        yes("21 over an old one", x.image(0));
        x.take(2);
        x.again(0);
        due("21 the newer one", x.count(6), 3);
    }

    private static void changeAll(InkOverInk x) {
        x.page(4, 5);
        x.weight(0, 20);
        x.shape(0, 0, 0, 4, 5, 2, true);
        x.take(1);
        x.move(0, 1, 1);
        x.paint(0, 5, false);
        x.lift(2, false);
        x.trap(3);
        x.off(2, 4, -5);
        x.creep(-2);
    }

    private static void checkFirst(InkOverInk x) {
        int[] want = {6, 0, 0, 0, 6, 0, 2, 0, 1, 6, 0};
        for (int what = 0; what < want.length; what++) {
            due("22 first, count " + what, x.count(what), want[what]);
        }
        due("22 first, colour", x.tell(0, 5), 1);
        due("22 first, row", x.tell(0, 1), 0);
        due("22 first, not taken", x.tell(1, 7), 1);
        due("22 first, not made", x.tell(2, 0), NONE);
        yes("22 first, weights", x.lighter(1, 8));
    }

    private static void checkSecond(InkOverInk x) {
        due("22 second, w", x.count(7), 3);
        due("22 second, creep", x.count(10), -2);
        due("22 second, reach", x.count(3), 6);
        due("22 second, rows", x.count(8), 4);
        due("22 second, columns", x.count(9), 5);
        due("22 second, colour", x.tell(0, 5), 5);
        due("22 second, lies over the other", x.tell(0, 7), 1);
        due("22 second, taken", x.tell(1, 7), NONE);
        due("22 second, fine", x.cell(0, 0, 1), 1);
        no("22 second, weights", x.lighter(1, 8));
    }

    public static void main(String[] args) {
        promise1();
        promise2();
        promise3();
        promise4();
        promise4Kinds();
        promise5();
        promise6();
        promise7();
        promise8();
        promise9();
        promise10();
        promise10LackingInk();
        promise11();
        promise12();
        promise13();
        promise13Inks();
        promise14();
        promise15();
        promise16();
        promise17();
        promise17Reach();
        promise17Crowded();
        promise18();
        promise18Ways();
        promise19();
        promise20();
        promises21And22();
        end("PromiseTest");
    }
}
