/** One test for each boundary case that a sentence of the document's head or of its Terms names. */
public final class TermBoundaryTest extends Checks {

    // The head, the face and the constants

    private static void lastOf512Calls() {
        InkOverInk x = new InkOverInk();
        for (int call = 1; call < 512; call++) {
            if (call <= 31) {
                due("shape " + call, x.shape(0, 0, 0, 8, 8, 1, false), call == 31 ? NONE : call - 1);
            } else {
                yes("call " + call, x.image(call & 3));
            }
        }
        due("the 512th", x.tell(29, 8), 64);
    }

    private static void none() {
        due("NONE", InkOverInk.NONE, -1);
    }

    // Term 1: the page, inks and colours

    private static void leastPage() {
        InkOverInk x = new InkOverInk();
        yes("one cell", x.page(1, 1));
        due("it", x.cell(0, 0, 0), 0);
        due("none under it", x.cell(1, 0, 0), NONE);
        due("none beside it", x.cell(0, 1, 0), NONE);
    }

    private static void greatestPage() {
        InkOverInk x = new InkOverInk();
        yes("sixteen", x.page(16, 16));
        x.shape(0, 15, 15, 1, 1, 15, false);
        due("the last cell", x.cell(15, 15, 0), 15);
        due("its plate", x.plate(3, 15), 1 << 15);
        due("none under it", x.cell(16, 15, 0), NONE);
        due("none beside it", x.cell(15, 16, 0), NONE);
    }

    private static void firstAndLastInk() {
        InkOverInk x = row(9);
        for (int ink = 0; ink <= 3; ink += 3) {
            yes("weight of " + ink, x.weight(ink, 1));
            yes("off " + ink, x.off(ink, 0, 0));
            due("bare " + ink, x.bare(ink, 6, 6), 0);
            due("plate " + ink, x.plate(ink, 0), 1);
        }
        for (int ink = -1; ink <= 4; ink += 5) {
            no("weight of " + ink, x.weight(ink, 1));
            no("off " + ink, x.off(ink, 0, 0));
            due("bare " + ink, x.bare(ink, 0, 0), NONE);
            due("plate " + ink, x.plate(ink, 0), NONE);
        }
    }

    private static void weightsAtFirst() {
        InkOverInk x = new InkOverInk();
        int[] dark = {0, 1, 3, 4, 4, 5, 7, 8, 8, 9, 11, 12, 12, 13, 15, 16};
        for (int a = 0; a < 16; a++) {
            for (int b = 0; b < 16; b++) {
                boolean lighter = dark[a] < dark[b] || dark[a] == dark[b] && a < b;
                due(a + " lighter than " + b, x.lighter(a, b) ? 1 : 0, lighter ? 1 : 0);
            }
        }
    }

    private static void leastWeight() {
        InkOverInk x = new InkOverInk();
        x.weight(3, 0);
        yes("ink 3 weighs less than ink 0", x.lighter(8, 1));
        yes("no more than paper, which is lesser", x.lighter(0, 8));
        yes("and nothing with ink 0", x.lighter(1, 9));
        no("so the greater is not lighter", x.lighter(9, 1));
    }

    private static void greatestWeight() {
        InkOverInk x = new InkOverInk();
        for (int ink = 0; ink < 4; ink++) {
            yes("20 of " + ink, x.weight(ink, 20));
        }
        yes("80 is darker than 60", x.lighter(14, 15));
        yes("20 is lighter than 40", x.lighter(8, 3));
        yes("of two of 20 the lesser", x.lighter(4, 8));
        no("not the greater", x.lighter(8, 4));
    }

    private static void firstAndLastColour() {
        InkOverInk x = new InkOverInk();
        due("colour 0", x.shape(0, 0, 0, 1, 1, 0, false), 0);
        due("colour 15", x.shape(0, 0, 1, 1, 1, 15, false), 1);
        due("0 is seen", x.cell(0, 0, 0), 0);
        due("15 is seen", x.cell(0, 1, 0), 15);
        due("no colour -1", x.shape(0, 0, 0, 1, 1, -1, false), NONE);
        due("no colour 16", x.shape(0, 0, 0, 1, 1, 16, false), NONE);
    }

    private static void colourZeroIsPaper() {
        InkOverInk x = full(2, 2, 15);
        x.shape(0, 0, 0, 1, 1, 0, false);
        due("three cells are not paper", x.count(0), 3);
        for (int ink = 0; ink < 4; ink++) {
            due("plate " + ink + " has a hole there", x.plate(ink, 0), 0b10);
        }
        due("the shape is seen there", x.cell(0, 0, 2), 1);
    }

    private static void colourFifteenHasAllInks() {
        InkOverInk x = row(15);
        due("all inks", x.cell(0, 0, 3), 15);
        due("four cells of plates", x.count(4), 4);
    }

    private static void alikeTheLesser() {
        InkOverInk x = new InkOverInk();
        for (int ink = 0; ink < 4; ink++) {
            x.weight(ink, 0);
        }
        for (int c = 0; c < 15; c++) {
            yes(c + " before the next", x.lighter(c, c + 1));
            no("the next before " + c, x.lighter(c + 1, c));
            no(c + " is not lighter than itself", x.lighter(c, c));
        }
    }

    // Term 1: the shapes

    private static void thirtyShapes() {
        InkOverInk x = new InkOverInk();
        for (int number = 0; number < 30; number++) {
            due("number", x.shape(0, 0, 0, 1, 1, 1, false), number);
        }
        due("no more", x.shape(0, 0, 0, 1, 1, 2, false), NONE);
        due("thirty", x.count(6), 30);
        due("the last one is seen", x.cell(0, 0, 2), 29);
        due("29 lie under it", x.tell(29, 7), 29);
    }

    private static void firstOneLowest() {
        InkOverInk x = new InkOverInk();
        x.shape(0, 0, 0, 1, 1, 1, false);
        due("none lies under the first", x.tell(0, 7), 0);
        x.shape(0, 0, 0, 1, 1, 2, false);
        due("nor now", x.tell(0, 7), 0);
        due("one under the second", x.tell(1, 7), 1);
        due("which is seen", x.cell(0, 0, 2), 1);
    }

    private static void leastPlace() {
        InkOverInk x = new InkOverInk();
        x.page(16, 16);
        x.shape(0, -16, 0, 16, 1, 1, false);
        x.shape(0, -16, 1, 17, 1, 1, false);
        x.shape(0, 0, -16, 1, 16, 1, false);
        x.shape(0, 1, -16, 1, 17, 1, false);
        int[] seen = {0, 1, 0, 1};
        for (int shape = 0; shape < 4; shape++) {
            due("shape " + shape + " is seen", x.tell(shape, 8), seen[shape]);
        }
        due("its row", x.tell(0, 1), -16);
        due("its column", x.tell(2, 2), -16);
    }

    private static void greatestPlace() {
        InkOverInk x = new InkOverInk();
        x.page(16, 16);
        due("at 31", x.shape(0, 31, 31, 32, 32, 1, false), 0);
        due("its row", x.tell(0, 1), 31);
        due("its column", x.tell(0, 2), 31);
        due("not seen", x.tell(0, 8), 0);
        x.move(0, 15, 15);
        due("the last cell has it", x.tell(0, 8), 1);
        x.move(0, 16, 15);
        due("one row too far", x.tell(0, 8), 0);
        x.move(0, 15, 16);
        due("one column too far", x.tell(0, 8), 0);
    }

    private static void leastSize() {
        for (int kind = 0; kind < 4; kind++) {
            InkOverInk x = new InkOverInk();
            due("kind " + kind, x.shape(kind, 7, 7, 1, 1, 1, false), 0);
            due("one cell of kind " + kind, x.tell(0, 8), 1);
        }
    }

    private static void greatestSize() {
        InkOverInk x = new InkOverInk();
        x.page(16, 16);
        x.shape(0, -16, -16, 32, 32, 1, false);
        due("all of the page", x.tell(0, 8), 256);
        due("height", x.tell(0, 3), 32);
        due("width", x.tell(0, 4), 32);
        x.take(0);
        x.shape(0, -16, -16, 31, 31, 1, false);
        due("all but the last row and column", x.tell(1, 8), 225);
    }

    private static void form(InkOverInk x, int kind, int height, int width, String... lines) {
        x.page(16, 16);
        int number = x.shape(kind, 2, 3, height, width, 1, false);
        for (int row = 0; row < lines.length; row++) {
            int want = 0;
            for (int column = 0; column < lines[row].length(); column++) {
                want |= lines[row].charAt(column) == '#' ? 1 << column + 3 : 0;
            }
            due("kind " + kind + ", " + height + " by " + width + ", row " + row, x.plate(0, row + 2), want);
        }
        x.take(number);
    }

    private static void boxHasAll() {
        InkOverInk x = new InkOverInk();
        form(x, 0, 3, 4, "####", "####", "####", "....");
        form(x, 0, 1, 5, "#####", ".....");
        form(x, 0, 2, 1, "#.", "#.", "..");
    }

    private static void ovalNotAbove() {
        InkOverInk x = new InkOverInk();
        // No cell of any oval lies just on the line; that of 5 by 12 misses it by 1 of 3600, and is out.
        form(x, 1, 5, 12, "..########..", ".##########.", "############", ".##########.", "..########..");
        form(x, 1, 4, 4, ".##.", "####", "####", ".##.");
        form(x, 1, 2, 8, ".######.", ".######.");
        form(x, 1, 3, 3, "###", "###", "###");
        form(x, 1, 1, 9, "#########", ".........");
        form(x, 1, 5, 1, "#", "#", "#", "#", "#", ".");
    }

    private static void ovalJustInside() {
        InkOverInk x = new InkOverInk();
        x.page(16, 16);
        x.shape(1, 0, 0, 14, 15, 1, false);
        due("59 of 44100 below: the first cell", x.cell(4, 0, 2), 0);
        due("the row above begins with the second", x.cell(3, 0, 2), NONE);
        due("which it has", x.cell(3, 1, 2), 0);
    }

    private static void greatestOval() {
        InkOverInk x = new InkOverInk();
        x.page(16, 16);
        x.shape(1, 0, 0, 32, 32, 1, false);
        due("the first row begins at column 12", x.plate(0, 0), 0xf000);
        due("the first column begins at row 12", x.cell(11, 0, 0) * 2 + x.cell(12, 0, 0), 1);
        x.move(0, -16, -16);
        due("the last row ends at column 3", x.plate(0, 15), 0x000f);
        due("the last column ends at row 3", x.cell(3, 15, 0) * 2 + x.cell(4, 15, 0), 2);
    }

    private static void cornerNotAbove() {
        InkOverInk x = new InkOverInk();
        form(x, 2, 3, 3, "###", ".##", "..#", "...");
        form(x, 2, 2, 4, "####", "..##", "....");
        form(x, 2, 4, 2, "##", ".#", ".#", "..");
        form(x, 2, 1, 4, "####", "....");
        form(x, 2, 3, 1, "#", ".", ".");
        form(x, 2, 3, 2, "##", ".#", "..");
    }

    private static void frameOutermost() {
        InkOverInk x = new InkOverInk();
        form(x, 3, 4, 5, "#####", "#...#", "#...#", "#####", ".....");
        form(x, 3, 3, 3, "###", "#.#", "###");
        form(x, 3, 2, 3, "###", "###", "...");
        form(x, 3, 3, 2, "##", "##", "##", "..");
        form(x, 3, 1, 4, "####", "....");
        form(x, 3, 3, 1, "#.", "#.", "#.", "..");
    }

    private static void uppermostThatHasIt() {
        InkOverInk x = full(3, 3, 1);
        x.shape(3, 0, 0, 3, 3, 2, false);
        due("the frame where it is", x.cell(0, 0, 0), 2);
        due("the box through the frame", x.cell(1, 1, 0), 1);
        x.shape(0, 1, 1, 1, 1, 0, false);
        due("paper where its shape is", x.cell(1, 1, 0), 0);
        x.take(1);
        due("the box where the frame was", x.cell(0, 0, 0), 1);
    }

    private static void fineIfThatShapeIs() {
        InkOverInk x = row(1);
        x.shape(0, 0, 0, 1, 1, 2, true);
        due("the upper one is fine", x.cell(0, 0, 1), 1);
        x.lift(1, false);
        due("the lower one alone is", x.cell(0, 0, 1), 0);
        x.paint(0, 0, true);
        due("a fine one of paper", x.cell(0, 0, 1), 1);
    }

    private static void withoutOnePaper() {
        InkOverInk x = new InkOverInk();
        x.shape(0, 0, 0, 1, 1, 3, true);
        due("its colour", x.cell(0, 1, 0), 0);
        due("not fine", x.cell(0, 1, 1), 0);
        due("no shape", x.cell(0, 1, 2), NONE);
        due("not counted", x.count(0), 1);
    }

    // Term 2: plates

    private static void plateOfFine() {
        InkOverInk x = row(1, 8);
        x.paint(0, 1, true);
        x.paint(1, 8, true);
        x.trap(6);
        due("a fine cell's own ink", x.plate(0, 0), 0b01);
        due("the other's", x.plate(3, 0), 0b10);
    }

    private static void trappedByNothing() {
        InkOverInk x = lightBesideDark();
        due("0 adds none", x.trap(0), 0);
        due("plate 0", x.plate(0, 0), 0b000111);
    }

    private static void trappedBySix() {
        InkOverInk x = row(1, 8, 8, 8, 8, 8, 8, 8);
        due("six cells", x.trap(6), 6);
        due("not the seventh", x.plate(0, 0), 0b01111111);
        due("7 is too much", x.trap(7), NONE);
    }

    private static void noTrapOnPaper() {
        InkOverInk x = row(1, 0, 8);
        x.weight(0, 0);
        x.take(1);
        due("beyond the paper", x.trap(2), 1);
        due("but not on it", x.plate(0, 0), 0b101);
    }

    private static void noTrapOnPaperOfAShape() {
        InkOverInk x = row(1, 0, 8);
        due("beyond the paper", x.trap(2), 1);
        due("but not on it", x.plate(0, 0), 0b101);
    }

    private static void noTrapOnFine() {
        InkOverInk x = row(1, 8, 8);
        x.paint(1, 8, true);
        due("beyond the fine one", x.trap(2), 1);
        due("but not on it", x.plate(0, 0), 0b101);
    }

    private static void noTrapFromFine() {
        InkOverInk x = row(1, 1, 8, 8);
        x.paint(1, 1, true);
        due("the fine one gives nothing", x.trap(1), 0);
        due("the other one is two away", x.trap(2), 1);
    }

    private static void atMostRows() {
        for (int from = 0; from <= 8; from += 8) {
            InkOverInk x = full(9, 1, 8);
            x.shape(0, from, 0, 1, 1, 1, false);
            for (int w = 0; w <= 6; w++) {
                due("w " + w, x.trap(w), w);
                due("the last one", x.plate(0, Math.abs(from - w)), 1);
                due("the next one", x.plate(0, Math.abs(from - w - 1)), 0);
            }
        }
    }

    private static void atMostColumns() {
        for (int w = 0; w <= 6; w++) {
            InkOverInk x = full(1, 9, 8);
            x.shape(0, 0, 0, 1, 1, 1, false);
            due("w " + w, x.trap(w), w);
            due("to the right", x.plate(0, 0), (1 << w + 1) - 1);
            x.move(1, 0, 8);
            due("to the left", x.plate(0, 0), (1 << 9) - (1 << 8 - w));
        }
    }

    private static void rowsAndColumnsAtOnce() {
        InkOverInk x = full(16, 16, 8);
        x.shape(0, 7, 7, 1, 1, 1, false);
        for (int w = 0; w <= 6; w++) {
            due("a square around", x.trap(w), (2 * w + 1) * (2 * w + 1) - 1);
            due("its first row", x.plate(0, 7 - w), (1 << 8 + w) - (1 << 7 - w));
            due("its last row", x.plate(0, 7 + w), (1 << 8 + w) - (1 << 7 - w));
        }
    }

    private static void trapIsNotHandedOn() {
        InkOverInk x = row(1, 2, 8);
        due("each one cell", x.trap(1), 2);
        due("ink 0 not two cells", x.plate(0, 0), 0b011);
        due("ink 1", x.plate(1, 0), 0b110);
    }

    private static void trapOfThePageAlone() {
        InkOverInk x = full(2, 2, 8);
        x.shape(0, -1, 0, 1, 1, 1, false);
        x.shape(0, 0, -1, 1, 1, 1, false);
        x.shape(0, 2, 0, 1, 1, 1, false);
        x.shape(0, 0, 2, 1, 1, 1, false);
        due("nothing from outside", x.trap(6), 0);
        x.page(3, 3);
        due("from the cells that are in it now", x.trap(6), 4);
        x.page(2, 2);
        due("nothing again", x.trap(6), 0);
    }

    private static void trapFromLighterAlone() {
        InkOverInk x = row(1, 8);
        due("ink 0 under ink 3", x.trap(1), 1);
        due("not the other way", x.plate(3, 0), 0b10);
        x.paint(0, 7, false);
        due("alike, the lesser grows: three inks", x.trap(1), 3);
        x.weight(0, 2);
        due("9 is darker than 8", x.trap(1), 1);
        due("so ink 3 grows", x.plate(3, 0), 0b11);
        x.paint(0, 8, false);
        due("the same colour does not", x.trap(1), 0);
    }

    private static void trapLooksAtTheGiver() {
        // A lighter cell is near, but it lacks the ink; one that has the ink is near, but darker.
        InkOverInk x = row(1, 4, 10);
        due("ink 0 alone grows on the middle one, ink 2 on the last", x.trap(1), 2);
        due("ink 1 does not grow", x.plate(1, 0), 0b100);
        due("ink 3 does not grow", x.plate(3, 0), 0b100);
    }

    // Term 3: proofs

    private static void farthestOff() {
        InkOverInk x = new InkOverInk();
        x.page(16, 16);
        x.shape(0, 8, 8, 1, 1, 1, false);
        yes("6 down, 6 to the left", x.off(0, 6, -6));
        due("there", x.cell(14, 2, 4), 1);
        yes("6 up, 6 to the right", x.off(0, -6, 6));
        due("there", x.cell(2, 14, 4), 1);
        due("not where it was", x.cell(14, 2, 4), 0);
    }

    private static void greatestCreep() {
        InkOverInk x = full(1, 16, 1);
        x.shape(0, 0, 1, 1, 15, 0, false);
        x.creep(8);
        due("all columns show the first", shown(x, 0, 0), 0xffff);
        x.take(1);
        x.shape(0, 0, 0, 1, 1, 0, false);
        due("and none another", shown(x, 0, 0), 0);
    }

    private static void leastCreep() {
        InkOverInk x = full(1, 16, 1);
        yes("-8", x.creep(-8));
        due("column c shows column 2 c", shown(x, 0, 0), 0x00ff);
        x.shape(0, 0, 14, 1, 1, 0, false);
        due("column 7 shows column 14", shown(x, 0, 0), 0x007f);
    }

    private static void creepOfTheFirstColumn() {
        for (int creep = -8; creep <= 8; creep++) {
            InkOverInk x = row(1);
            x.creep(creep);
            due("creep " + creep, x.cell(0, 0, 4), 1);
        }
    }

    private static void creepCutTowardsZero() {
        InkOverInk x = new InkOverInk();
        x.page(1, 16);
        x.shape(0, 0, 1, 1, 1, 1, false);
        x.creep(7);
        due("columns 1 .. 8 less 0 .. 7", shown(x, 0, 0), 0x01fe);
        x.creep(-7);
        due("column 1 and -7 / 8", shown(x, 0, 0), 0x0002);
        x.move(0, 0, 3);
        due("column 2 and -14 / 8", shown(x, 0, 0), 0x0004);
    }

    private static void creepByEighths() {
        InkOverInk x = full(1, 16, 1);
        x.creep(1);
        due("seven eighths are none", x.cell(0, 7, 4), 1);
        x.shape(0, 0, 7, 1, 1, 0, false);
        due("columns 7 and 8 show column 7", shown(x, 0, 0), 0xfe7f);
        x.creep(-1);
        due("-8 / 8 is one: column 7 itself alone", shown(x, 0, 0), 0x7f7f);
    }

    private static void creepAndOffTogether() {
        InkOverInk x = full(1, 16, 1);
        x.off(0, 0, -6);
        x.creep(8);
        due("column c less c, and 6", shown(x, 0, 0), 0xffff);
        x.off(0, 0, 6);
        due("all outside", shown(x, 0, 0), 0);
        x.off(0, 0, 1);
        x.creep(-4);
        due("1 less c * 4 / 8: column 0 and beyond 11 outside", shown(x, 0, 0), 0x0ffe);
    }

    private static void noneOutside() {
        InkOverInk x = full(3, 3, 1);
        int[][] rows = {{1, 0, 0, 7, 7}, {-1, 0, 7, 7, 0}, {0, 1, 6, 6, 6}, {0, -1, 3, 3, 3}};
        for (int[] r : rows) {
            x.off(0, r[0], r[1]);
            for (int row = 0; row < 3; row++) {
                due("off " + r[0] + " " + r[1] + ", row " + row, shown(x, 0, row), r[row + 2]);
            }
        }
    }

    private static void noneOutsideThoughTheShapeGoesOn() {
        InkOverInk x = new InkOverInk();
        x.page(16, 16);
        x.shape(0, -16, -16, 32, 32, 1, false);
        due("a full page", x.count(1), 0);
        x.page(3, 3);
        x.off(0, -1, -1);
        due("five cells lack it", x.count(1), 5);
        x.off(0, 1, 1);
        due("five others", x.count(1), 5);
    }

    private static void noneFromTheNextRow() {
        InkOverInk x = new InkOverInk();
        x.page(16, 16);
        x.shape(0, 1, 0, 1, 16, 1, false);
        x.off(0, 0, 6);
        due("its row", shown(x, 0, 1), 0xffc0);
        due("the next row", shown(x, 0, 2), 0);
        x.off(0, 0, -6);
        due("its row", shown(x, 0, 1), 0x03ff);
        due("the row before", shown(x, 0, 0), 0);
    }

    private static void bareIsNotPaper() {
        InkOverInk x = row(1, 0);
        due("paper without ink", x.cell(0, 1, 5), 0);
        x.off(0, 1, 0);
        due("a cell without ink", x.cell(0, 0, 5), 1);
        due("paper again", x.cell(0, 1, 5), 0);
        due("one", x.count(1), 1);
    }

    private static void bareShowsNoInk() {
        InkOverInk x = row(3);
        x.off(0, 1, 0);
        due("one ink is left", x.cell(0, 0, 5), 0);
        x.off(1, 1, 0);
        due("none is left", x.cell(0, 0, 5), 1);
        x.paint(0, 3, true);
        due("a fine one too", x.cell(0, 0, 5), 1);
    }

    private static void bareButForAnotherInk() {
        InkOverInk x = row(1, 8);
        x.off(0, 0, 1);
        x.off(3, 0, -1);
        due("the other's ink shows", x.cell(0, 0, 4), 8);
        due("so it is not bare", x.cell(0, 0, 5), 0);
        due("but wrong", x.cell(0, 0, 6), 1);
    }

    private static void wrongIfInkLacks() {
        InkOverInk x = row(3);
        due("right", x.cell(0, 0, 6), 0);
        x.off(1, 1, 0);
        due("one lacks", x.cell(0, 0, 6), 1);
        x.off(0, 1, 0);
        due("all lack", x.cell(0, 0, 6), 1);
    }

    private static void wrongIfInkIsTooMuch() {
        InkOverInk x = row(1, 8);
        x.trap(1);
        due("the light one is right", x.cell(0, 0, 6), 0);
        due("the trapped one is not", x.cell(0, 1, 6), 1);
        due("one", x.count(2), 1);
    }

    private static void wrongPaper() {
        InkOverInk x = row(1, 0);
        x.off(0, 0, 1);
        due("paper that shows ink", x.cell(0, 1, 6), 1);
        x.right();
        due("paper that shows none", x.cell(0, 1, 6), 0);
    }

    private static void innerForNothing() {
        InkOverInk x = row(1, 1, 0);
        x.paint(1, 1, true);
        yes("a cell by itself, at the page's corner", x.inner(0, 0, 0));
        no("a fine one", x.inner(0, 1, 0));
        no("paper", x.inner(0, 2, 0));
    }

    private static void innerInThePage() {
        InkOverInk x = new InkOverInk();
        x.page(16, 16);
        x.shape(0, -16, -16, 32, 32, 1, false);
        int[][] cells = {{7, 7}, {7, 8}, {8, 7}, {8, 8}};
        for (int[] c : cells) {
            yes("seven away", x.inner(c[0], c[1], 7));
            no("eight away", x.inner(c[0], c[1], 8));
        }
        no("seven away, too far up", x.inner(6, 7, 7));
        no("too far down", x.inner(9, 7, 7));
        no("too far left", x.inner(7, 6, 7));
        no("too far right", x.inner(7, 9, 7));
        x.page(15, 15);
        yes("of a lesser page one", x.inner(7, 7, 7));
        no("and no other", x.inner(8, 8, 7));
    }

    private static void innerNotPaperNotFine() {
        for (int side = 0; side < 8; side++) {
            int row = new int[] {0, 0, 0, 2, 2, 4, 4, 4}[side];
            int column = new int[] {0, 2, 4, 0, 4, 0, 2, 4}[side];
            InkOverInk x = full(5, 5, 1);
            x.shape(0, row, column, 1, 1, 0, false);
            no("paper two away", x.inner(2, 2, 2));
            yes("not one away", x.inner(2, 2, 1));
            x.paint(1, 1, true);
            no("fine two away", x.inner(2, 2, 2));
            yes("fine, not one away", x.inner(2, 2, 1));
            x.paint(1, 15, false);
            yes("another colour", x.inner(2, 2, 2));
        }
    }

    private static void reachWithoutSign() {
        InkOverInk x = new InkOverInk();
        due("nothing", x.count(3), 0);
        for (int ink = 0; ink < 4; ink++) {
            x.off(ink, -6, 1);
            due("rows of ink " + ink, x.count(3), 6);
            x.off(ink, 1, -5);
            due("columns of ink " + ink, x.count(3), 5);
            x.right();
        }
    }

    private static void reachAtAnyCell() {
        InkOverInk x = new InkOverInk();
        x.page(1, 16);
        x.creep(8);
        due("the last column", x.count(3), 15);
        x.off(1, 0, 6);
        due("and 6 more", x.count(3), 21);
        x.creep(-8);
        due("the other inks' last column", x.count(3), 15);
        for (int ink = 0; ink < 4; ink++) {
            x.off(ink, 0, 6);
        }
        due("the last column, 15 less 6", x.count(3), 9);
        x.page(1, 8);
        due("the first column, as the last is but 1", x.count(3), 6);
    }

    private static void reachOfThePagesColumns() {
        InkOverInk x = new InkOverInk();
        x.creep(1);
        due("column 7: 7 / 8", x.count(3), 0);
        x.page(8, 9);
        due("column 8: 8 / 8", x.count(3), 1);
        x.creep(-1);
        due("column 8: -8 / 8", x.count(3), 1);
        x.page(8, 8);
        due("column 7: -7 / 8", x.count(3), 0);
    }

    private static void pageInksAndColours() {
        test("An object is used for at most 512 calls", TermBoundaryTest::lastOf512Calls);
        test("NONE = -1", TermBoundaryTest::none);
        test("A PAGE has 1 .. ROWS and COLUMNS of CELLS", TermBoundaryTest::leastPage);
        test("A PAGE has .. 16 ROWS and COLUMNS of CELLS", TermBoundaryTest::greatestPage);
        test("INKS are 0 .. 3", TermBoundaryTest::firstAndLastInk);
        test("a WEIGHT (1, 3, 4 and 8 at first)", TermBoundaryTest::weightsAtFirst);
        test("a WEIGHT, 0 ..", TermBoundaryTest::leastWeight);
        test("a WEIGHT, .. 20; the WEIGHTS of its INKS together", TermBoundaryTest::greatestWeight);
        test("COLOURS are 0 .. 15", TermBoundaryTest::firstAndLastColour);
        test("COLOUR 0: paper", TermBoundaryTest::colourZeroIsPaper);
        test("COLOUR c is of the INKS whose bits c has: all", TermBoundaryTest::colourFifteenHasAllInks);
        test("LIGHTER, of two alike the lesser one", TermBoundaryTest::alikeTheLesser);
    }

    private static void shapes() {
        test("SHAPES, at most 30; a number, from 0 on", TermBoundaryTest::thirtyShapes);
        test("the first one lowest", TermBoundaryTest::firstOneLowest);
        test("a place (ROW, COLUMN of its first CELL, -16 ..)", TermBoundaryTest::leastPlace);
        test("a place (ROW, COLUMN of its first CELL, .. 31)", TermBoundaryTest::greatestPlace);
        test("a HEIGHT and a WIDTH, 1 ..", TermBoundaryTest::leastSize);
        test("a HEIGHT and a WIDTH, .. 32", TermBoundaryTest::greatestSize);
        test("KIND 0: all CELLS of its box", TermBoundaryTest::boxHasAll);
        test("KIND 1: an oval: together are not above", TermBoundaryTest::ovalNotAbove);
        test("KIND 1: an oval: just below", TermBoundaryTest::ovalJustInside);
        test("KIND 1: an oval: the greatest", TermBoundaryTest::greatestOval);
        test("KIND 2: a corner: r * WIDTH is not above c * HEIGHT", TermBoundaryTest::cornerNotAbove);
        test("KIND 3: a frame: the box's outermost CELLS alone", TermBoundaryTest::frameOutermost);
        test("the COLOUR of the uppermost SHAPE that has it", TermBoundaryTest::uppermostThatHasIt);
        test("it is FINE if that SHAPE is", TermBoundaryTest::fineIfThatShapeIs);
        test("without one it is paper, not FINE", TermBoundaryTest::withoutOnePaper);
    }

    private static void plates() {
        test("a PLATE has a CELL if its COLOUR has that INK, FINE or not", TermBoundaryTest::plateOfFine);
        test("TRAPPED by w, 0 ..", TermBoundaryTest::trappedByNothing);
        test("TRAPPED by w, .. 6", TermBoundaryTest::trappedBySix);
        test("if the CELL is not paper: without a SHAPE", TermBoundaryTest::noTrapOnPaper);
        test("if the CELL is not paper: of a SHAPE", TermBoundaryTest::noTrapOnPaperOfAShape);
        test("if the CELL is not FINE", TermBoundaryTest::noTrapOnFine);
        test("some CELL that is not FINE", TermBoundaryTest::noTrapFromFine);
        test("at most w ROWS away", TermBoundaryTest::atMostRows);
        test("at most w COLUMNS away", TermBoundaryTest::atMostColumns);
        test("at most w ROWS and at most w COLUMNS away", TermBoundaryTest::rowsAndColumnsAtOnce);
        test("some CELL whose COLOUR has INK i, not its PLATE", TermBoundaryTest::trapIsNotHandedOn);
        test("some CELL of the PAGE", TermBoundaryTest::trapOfThePageAlone);
        test("its COLOUR is LIGHTER than this CELL's", TermBoundaryTest::trapFromLighterAlone);
        test("the same CELL has INK i and is LIGHTER", TermBoundaryTest::trapLooksAtTheGiver);
    }

    private static void proofs() {
        test("ROWS down and COLUMNS to the right, -6 .. 6 each", TermBoundaryTest::farthestOff);
        test("a CREEP of .. 8", TermBoundaryTest::greatestCreep);
        test("a CREEP of -8 ..", TermBoundaryTest::leastCreep);
        test("COLUMN c: c * CREEP / 8: the first", TermBoundaryTest::creepOfTheFirstColumn);
        test("COLUMN c: c * CREEP / 8, cut towards 0", TermBoundaryTest::creepCutTowardsZero);
        test("CREEP / 8 COLUMNS more for each COLUMN: the first whole one", TermBoundaryTest::creepByEighths);
        test("COLUMN c less the COLUMNS and that", TermBoundaryTest::creepAndOffTogether);
        test("none outside of the PAGE", TermBoundaryTest::noneOutside);
        test("none outside of the PAGE, where a SHAPE goes on", TermBoundaryTest::noneOutsideThoughTheShapeGoesOn);
        test("none outside of the PAGE, in the next ROW", TermBoundaryTest::noneFromTheNextRow);
        test("BARE if it is not paper", TermBoundaryTest::bareIsNotPaper);
        test("BARE if it shows no INK", TermBoundaryTest::bareShowsNoInk);
        test("BARE if it shows no INK at all", TermBoundaryTest::bareButForAnotherInk);
        test("WRONG if it shows other INKS: fewer", TermBoundaryTest::wrongIfInkLacks);
        test("WRONG if it shows other INKS: more", TermBoundaryTest::wrongIfInkIsTooMuch);
        test("WRONG if it shows other INKS: on paper", TermBoundaryTest::wrongPaper);
        test("INNER for 0", TermBoundaryTest::innerForNothing);
        test("INNER: all CELLS are in the PAGE", TermBoundaryTest::innerInThePage);
        test("INNER: not paper, and not FINE", TermBoundaryTest::innerNotPaperNotFine);
        test("REACH: ROWS or COLUMNS (without a sign)", TermBoundaryTest::reachWithoutSign);
        test("REACH: the greatest number at any CELL", TermBoundaryTest::reachAtAnyCell);
        test("REACH: at any CELL of the PAGE", TermBoundaryTest::reachOfThePagesColumns);
    }

    public static void main(String[] args) {
        pageInksAndColours();
        shapes();
        plates();
        proofs();
        end("TermBoundaryTest");
    }
}
