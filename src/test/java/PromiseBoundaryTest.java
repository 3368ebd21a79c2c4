import java.util.Arrays;
import java.util.function.IntFunction;
import java.util.function.ToIntFunction;

/** One test for each boundary case that a sentence of the document's promises names. */
public final class PromiseBoundaryTest extends Checks {
    private static final int[] FAR = {MIN, MIN + 1, MAX - 1, MAX};

    // Of the worked object: numbers that were never a shape's, and that of the one that was taken away.
    private static final int[] NEVER = {-1, 4, 29, 30, MIN, MAX};
    private static final int TAKEN = 3;

    private static int number(boolean answer) {
        return answer ? 1 : 0;
    }

    // Refused calls

    /** Nothing here is as it is at first; shape 3 was taken away, and image 1 differs from what came after. */
    private static InkOverInk worked() {
        InkOverInk x = new InkOverInk();
        x.page(4, 5);
        x.weight(0, 2);
        x.weight(2, 7);
        x.shape(0, 0, 0, 4, 5, 1, false);
        x.shape(3, 1, 1, 3, 3, 8, false);
        x.shape(2, 0, 3, 2, 2, 6, true);
        x.shape(0, 0, 0, 1, 1, 4, false);
        x.take(3);
        x.lift(2, false);
        x.trap(1);
        x.off(1, 1, -1);
        x.off(3, 0, 2);
        x.creep(3);
        x.image(1);
        x.paint(0, 3, false);
        return x;
    }

    /** What an object tells but for its images, in far fewer calls than one may be used for. */
    private static int[] told(InkOverInk x) {
        int[] all = new int[228];
        int at = 0;
        for (int what = 0; what <= 10; what++) {
            all[at++] = x.count(what);
        }
        for (int shape = 0; shape <= 3; shape++) {
            for (int what = 0; what <= 8; what++) {
                all[at++] = x.tell(shape, what);
            }
        }
        for (int row = 0; row < 4; row++) {
            for (int column = 0; column < 5; column++) {
                all[at++] = x.cell(row, column, 2);
                all[at++] = x.cell(row, column, 3);
                all[at++] = x.cell(row, column, 4);
            }
        }
        for (int a = 0; a < 15; a++) {
            for (int b = a + 1; b < 16; b++) {
                all[at++] = number(x.lighter(a, b));
            }
        }
        all[at] = x.shape(0, 0, 0, 1, 1, 1, false);
        return all;
    }

    private static int[] toldOfImages(InkOverInk x) {
        int[] all = new int[12];
        for (int k = 0; k < 4; k++) {
            all[3 * k] = number(x.again(k));
            all[3 * k + 1] = x.tell(0, 5);
            all[3 * k + 2] = x.count(6);
        }
        return all;
    }

    private static void refused(String call, int want, ToIntFunction<InkOverInk> made) {
        InkOverInk x = worked();
        InkOverInk before = worked();
        due(call, made.applyAsInt(x), want);
        yes("all stays after " + call, Arrays.equals(told(x), told(before)));
        yes("the images stay after " + call, Arrays.equals(toldOfImages(x), toldOfImages(before)));
    }

    private static void refusedFor(int want, int[] values, String call, IntFunction<ToIntFunction<InkOverInk>> made) {
        for (int value : values) {
            refused(call + " " + value, want, made.apply(value));
        }
    }

    /** Those just outside of the bounds, and those far away. */
    private static int[] outside(int least, int most) {
        int[] all = Arrays.copyOf(FAR, FAR.length + 2);
        all[FAR.length] = least - 1;
        all[FAR.length + 1] = most + 1;
        return all;
    }

    // Promises 1 to 3

    private static void newPage() {
        InkOverInk x = new InkOverInk();
        due("rows", x.count(8), 8);
        due("columns", x.count(9), 8);
        due("the last cell", x.cell(7, 7, 0), 0);
        due("no ninth row", x.cell(8, 0, 0), NONE);
        due("no ninth column", x.cell(0, 8, 0), NONE);
        due("the last row of a plate", x.plate(0, 7), 0);
        due("no ninth row of a plate", x.plate(0, 8), NONE);
    }

    private static void newWithoutShapes() {
        InkOverInk x = new InkOverInk();
        due("none", x.count(6), 0);
        due("no first one", x.tell(0, 0), NONE);
        no("none to take", x.take(0));
        due("all paper", x.count(0), 0);
        due("no plates", x.count(4), 0);
        due("nothing can be bare", x.safe(), 6);
        due("however a plate lay", x.bare(0, 6, 6), 0);
    }

    private static void newNotTrapped() {
        InkOverInk x = new InkOverInk();
        due("w", x.count(7), 0);
        x.shape(0, 0, 0, 1, 1, 1, false);
        x.shape(0, 0, 1, 1, 1, 8, false);
        due("nothing grows", x.plate(0, 0), 1);
    }

    private static void newLiesRight() {
        InkOverInk x = new InkOverInk();
        due("reach", x.count(3), 0);
        due("creep", x.count(10), 0);
        x.shape(0, 0, 0, 8, 8, 15, false);
        due("nothing wrong", x.count(2), 0);
    }

    private static void newWithoutImages() {
        InkOverInk x = new InkOverInk();
        for (int k = 0; k < 4; k++) {
            no("image " + k, x.again(k));
        }
    }

    private static void objectsShareNothing() {
        InkOverInk x = worked();
        InkOverInk y = new InkOverInk();
        due("no shapes", y.count(6), 0);
        no("no image", y.again(1));
        yes("weights as at first", y.lighter(3, 4) && y.lighter(4, 5));
        y.page(1, 1);
        due("nor the other way", x.count(8), 4);
    }

    private static void pageOfEdges() {
        InkOverInk x = new InkOverInk();
        int[] sides = {1, 16};
        for (int rows : sides) {
            for (int columns : sides) {
                yes(rows + " by " + columns, x.page(rows, columns));
                due("rows", x.count(8), rows);
                due("columns", x.count(9), columns);
                due("the last cell", x.cell(rows - 1, columns - 1, 0), 0);
                due("none below", x.cell(rows, columns - 1, 0), NONE);
                due("none beside", x.cell(rows - 1, columns, 0), NONE);
            }
        }
    }

    private static void pageAsItIs() {
        InkOverInk x = full(8, 8, 1);
        yes("the same again", x.page(8, 8));
        due("all is there", x.count(0), 64);
    }

    private static void shapesStay() {
        InkOverInk x = full(16, 16, 1);
        x.shape(0, 15, 15, 1, 1, 8, false);
        x.page(1, 1);
        due("two shapes", x.count(6), 2);
        due("the last one is not seen", x.tell(1, 8), 0);
        due("but is where it was", x.tell(1, 1), 15);
        x.page(16, 16);
        due("seen again", x.cell(15, 15, 2), 1);
        due("and all the rest", x.tell(0, 8), 255);
    }

    private static void pageOthers() {
        refusedFor(0, outside(1, 16), "rows", v -> x -> number(x.page(v, 5)));
        refusedFor(0, outside(1, 16), "columns", v -> x -> number(x.page(4, v)));
        refusedFor(0, outside(1, 16), "both", v -> x -> number(x.page(v, v)));
    }

    private static void weightOfEdges() {
        for (int ink = 0; ink < 4; ink++) {
            InkOverInk x = new InkOverInk();
            int other = ink == 0 ? 2 : 1;
            yes("least", x.weight(ink, 0));
            yes("lighter than another", x.lighter(1 << ink, other));
            yes("greatest", x.weight(ink, 20));
            yes("darker than another", x.lighter(other, 1 << ink));
        }
    }

    private static void weightOfNoInk() {
        refusedFor(0, outside(0, 3), "ink", v -> x -> number(x.weight(v, 9)));
    }

    private static void anotherWeight() {
        for (int ink = 0; ink < 4; ink++) {
            int i = ink;
            refusedFor(0, outside(0, 20), "ink " + i + ", weight", v -> x -> number(x.weight(i, v)));
        }
    }

    // Promises 4 to 6

    private static void comesUppermost() {
        InkOverInk x = full(2, 2, 1);
        x.shape(0, 0, 0, 2, 2, 2, false);
        x.lift(0, true);
        due("over the lifted one too", x.shape(0, 0, 0, 1, 1, 4, false), 2);
        due("it is seen", x.cell(0, 0, 2), 2);
        due("two lie under it", x.tell(2, 7), 2);
    }

    private static void thereAreThirty() {
        InkOverInk x = new InkOverInk();
        for (int number = 0; number < 29; number++) {
            x.shape(0, 0, 0, 1, 1, 1, false);
        }
        due("the thirtieth", x.shape(0, 0, 0, 1, 1, 1, false), 29);
        due("no more", x.shape(0, 0, 0, 1, 1, 2, false), NONE);
        due("nothing came", x.cell(0, 0, 0), 1);
        due("thirty", x.count(6), 30);
        due("no number 30", x.tell(30, 0), NONE);
    }

    private static void takenAwayCount() {
        InkOverInk x = new InkOverInk();
        for (int number = 0; number < 30; number++) {
            due("number", x.shape(0, 0, 0, 1, 1, 1, false), number);
            yes("taken", x.take(number));
        }
        due("none lies", x.count(6), 0);
        due("and none comes", x.shape(0, 0, 0, 1, 1, 1, false), NONE);
        due("none lies still", x.count(6), 0);
    }

    private static void shapeOfEdges() {
        InkOverInk x = new InkOverInk();
        int[][] edges = {{0, -16, -16, 1, 1, 0}, {3, 31, 31, 32, 32, 15}};
        for (int[] e : edges) {
            int number = x.shape(e[0], e[1], e[2], e[3], e[4], e[5], true);
            for (int what = 0; what < e.length; what++) {
                due("what " + what, x.tell(number, what), e[what]);
            }
        }
    }

    private static void shapeOfOtherKind() {
        refusedFor(NONE, outside(0, 3), "kind", v -> x -> x.shape(v, 0, 0, 1, 1, 2, false));
    }

    private static void shapeOfOtherRow() {
        refusedFor(NONE, outside(-16, 31), "row", v -> x -> x.shape(0, v, 0, 32, 1, 2, false));
    }

    private static void shapeOfOtherColumn() {
        refusedFor(NONE, outside(-16, 31), "column", v -> x -> x.shape(0, 0, v, 1, 32, 2, false));
    }

    private static void shapeOfOtherHeight() {
        refusedFor(NONE, outside(1, 32), "height", v -> x -> x.shape(0, 0, 0, v, 1, 2, false));
    }

    private static void shapeOfOtherWidth() {
        refusedFor(NONE, outside(1, 32), "width", v -> x -> x.shape(0, 0, 0, 1, v, 2, false));
    }

    private static void shapeOfOtherColour() {
        refusedFor(NONE, outside(0, 15), "colour", v -> x -> x.shape(0, 0, 0, 1, 1, v, false));
    }

    private static void takeTheOnlyOne() {
        InkOverInk x = full(2, 2, 3);
        x.trap(6);
        yes("it goes", x.take(0));
        due("no shapes", x.count(6), 0);
        due("all paper", x.count(0), 0);
        due("no plates", x.count(4), 0);
        due("no shape there", x.cell(0, 0, 2), NONE);
    }

    private static void takeFromEachPlace() {
        for (int gone = 0; gone < 3; gone++) {
            InkOverInk x = full(1, 1, 1);
            x.shape(0, 0, 0, 1, 1, 2, false);
            x.shape(0, 0, 0, 1, 1, 4, false);
            yes("take " + gone, x.take(gone));
            int under = 0;
            for (int shape = 0; shape < 3; shape++) {
                due("under " + shape, x.tell(shape, 7), shape == gone ? NONE : under);
                under += shape == gone ? 0 : 1;
            }
            due("the uppermost", x.cell(0, 0, 2), gone == 2 ? 1 : 2);
        }
    }

    private static void takeNoneSuch() {
        refusedFor(0, NEVER, "take", v -> x -> number(x.take(v)));
    }

    private static void takeItWas() {
        refused("take it again", 0, x -> number(x.take(TAKEN)));
    }

    private static void moveToEdges() {
        InkOverInk x = new InkOverInk();
        x.page(16, 16);
        x.shape(0, 0, 0, 32, 32, 1, false);
        yes("to the least", x.move(0, -16, -16));
        due("all of the page", x.tell(0, 8), 256);
        yes("to the greatest", x.move(0, 31, 31));
        due("none of it", x.tell(0, 8), 0);
        due("row", x.tell(0, 1), 31);
        due("column", x.tell(0, 2), 31);
        yes("out of order", x.move(0, -16, 31));
        due("row", x.tell(0, 1), -16);
        due("column", x.tell(0, 2), 31);
    }

    private static void moveKeepsItsPlaceInTheRow() {
        InkOverInk x = full(1, 1, 1);
        x.shape(0, 0, 1, 1, 1, 2, false);
        x.shape(0, 0, 0, 1, 1, 4, false);
        x.move(1, 0, 0);
        due("still under the third", x.cell(0, 0, 2), 2);
        due("still over the first", x.tell(1, 7), 1);
    }

    private static void moveNoneSuch() {
        refusedFor(0, NEVER, "move", v -> x -> number(x.move(v, 0, 0)));
        refused("move the taken one", 0, x -> number(x.move(TAKEN, 0, 0)));
    }

    private static void moveCannotBe() {
        refusedFor(0, outside(-16, 31), "to row", v -> x -> number(x.move(0, v, 1)));
        refusedFor(0, outside(-16, 31), "to column", v -> x -> number(x.move(0, 1, v)));
    }

    // Promises 7 to 9

    private static void liftOneStep() {
        InkOverInk x = full(1, 1, 1);
        x.shape(0, 0, 0, 1, 1, 2, false);
        x.shape(0, 0, 0, 1, 1, 4, false);
        yes("the first goes up", x.lift(0, true));
        due("one lies under it", x.tell(0, 7), 1);
        due("the third is still seen", x.cell(0, 0, 2), 2);
        yes("once more", x.lift(0, true));
        due("now it is seen", x.cell(0, 0, 2), 0);
        yes("down again", x.lift(0, false));
        due("the third again", x.cell(0, 0, 2), 2);
        yes("and to the bottom", x.lift(0, false));
        due("none under it", x.tell(0, 7), 0);
    }

    private static void liftOverTaken() {
        InkOverInk x = full(1, 1, 1);
        x.shape(0, 0, 0, 1, 1, 2, false);
        x.shape(0, 0, 0, 1, 1, 4, false);
        x.take(1);
        yes("over the next that lies there", x.lift(0, true));
        due("it is seen", x.cell(0, 0, 2), 0);
        no("and is uppermost", x.lift(0, true));
    }

    private static void liftUppermost() {
        refused("the uppermost up", 0, x -> number(x.lift(1, true)));
    }

    private static void liftLowest() {
        refused("the lowest down", 0, x -> number(x.lift(0, false)));
    }

    private static void liftTheOnlyOne() {
        InkOverInk x = row(1);
        no("up", x.lift(0, true));
        no("down", x.lift(0, false));
        due("it is there", x.cell(0, 0, 2), 0);
    }

    private static void liftThirty() {
        InkOverInk x = new InkOverInk();
        for (int number = 0; number < 30; number++) {
            x.shape(0, 0, 0, 1, 1, 1, false);
        }
        no("the last of thirty up", x.lift(29, true));
        yes("the one before it", x.lift(28, true));
        due("is seen", x.cell(0, 0, 2), 28);
        no("and goes no farther", x.lift(28, true));
        yes("the first", x.lift(0, true));
        no("the second is lowest now", x.lift(1, false));
    }

    private static void liftNoneSuch() {
        refusedFor(0, NEVER, "up", v -> x -> number(x.lift(v, true)));
        refusedFor(0, NEVER, "down", v -> x -> number(x.lift(v, false)));
        refused("the taken one up", 0, x -> number(x.lift(TAKEN, true)));
        refused("the taken one down", 0, x -> number(x.lift(TAKEN, false)));
    }

    private static void paintOfEdges() {
        InkOverInk x = row(5);
        yes("colour 0", x.paint(0, 0, true));
        due("paper", x.count(0), 0);
        due("fine", x.cell(0, 0, 1), 1);
        yes("colour 15", x.paint(0, 15, false));
        due("all inks", x.cell(0, 0, 3), 15);
        due("not fine", x.cell(0, 0, 1), 0);
        yes("fine alone", x.paint(0, 15, true));
        due("fine again", x.tell(0, 6), 1);
    }

    private static void paintNoneSuch() {
        refusedFor(0, NEVER, "paint", v -> x -> number(x.paint(v, 2, true)));
        refused("the taken one", 0, x -> number(x.paint(TAKEN, 2, true)));
    }

    private static void paintAnotherColour() {
        refusedFor(0, outside(0, 15), "colour", v -> x -> number(x.paint(0, v, true)));
    }

    private static void tellEdges() {
        InkOverInk x = worked();
        due("what 0", x.tell(2, 0), 2);
        due("what 8", x.tell(2, 8), 3);
        int[][] told = {{0, 0, 0, 4, 5, 3, 0, 0, 9}, {3, 1, 1, 3, 3, 8, 0, 2, 8}, {2, 0, 3, 2, 2, 6, 1, 1, 3}};
        for (int shape = 0; shape < told.length; shape++) {
            for (int what = 0; what < told[shape].length; what++) {
                due("shape " + shape + ", what " + what, x.tell(shape, what), told[shape][what]);
            }
        }
    }

    private static void tellHowManyUnder() {
        InkOverInk x = new InkOverInk();
        for (int number = 0; number < 30; number++) {
            x.shape(0, 0, 0, 1, 1, 1, false);
            due("under " + number, x.tell(number, 7), number);
        }
        x.take(0);
        due("one less", x.tell(29, 7), 28);
        due("none under the second", x.tell(1, 7), 0);
    }

    private static void tellSeenOnNone() {
        InkOverInk x = full(2, 2, 1);
        x.shape(0, 0, 0, 1, 2, 0, false);
        x.shape(0, 1, 0, 1, 2, 0, true);
        due("hidden by paper", x.tell(0, 8), 0);
        due("paper is seen", x.tell(1, 8), 2);
        x.move(2, 2, 0);
        due("under the page", x.tell(2, 8), 0);
        x.move(2, 0, -2);
        due("left of the page", x.tell(2, 8), 0);
        x.move(2, 0, -1);
        due("half in it", x.tell(2, 8), 1);
    }

    private static void tellNoneSuch() {
        for (int what = 0; what <= 8; what++) {
            int w = what;
            refusedFor(NONE, NEVER, "what " + w + " of", v -> x -> x.tell(v, w));
        }
    }

    private static void tellNotAnyMore() {
        InkOverInk x = worked();
        for (int what = 0; what <= 8; what++) {
            due("what " + what, x.tell(TAKEN, what), NONE);
        }
    }

    private static void tellAnotherWhat() {
        refusedFor(NONE, outside(0, 8), "what", v -> x -> x.tell(0, v));
    }

    // Promises 10 to 12

    private static void cellOfTheShape() {
        InkOverInk x = row(1, 2);
        x.take(0);
        due("none", x.cell(0, 0, 2), NONE);
        due("the second", x.cell(0, 1, 2), 1);
        x.paint(1, 0, false);
        due("one of paper", x.cell(0, 1, 2), 1);
    }

    private static void cellEdges() {
        InkOverInk x = worked();
        int[][] corners = {{0, 0, 0}, {0, 4, 2}, {3, 0, 0}, {3, 4, 0}};
        for (int[] c : corners) {
            due("the shape in a corner", x.cell(c[0], c[1], 2), c[2]);
        }
        x.right();
        int[] whats = {8, 0, 1, 11, 11, 0, 1};
        for (int what = 0; what < whats.length; what++) {
            due("what " + what, x.cell(1, 1, what), whats[what]);
        }
    }

    private static void cellNoneSuch() {
        for (int what = 0; what <= 6; what++) {
            int w = what;
            refusedFor(NONE, outside(0, 3), "row, what " + w, v -> x -> x.cell(v, 0, w));
            refusedFor(NONE, outside(0, 4), "column, what " + w, v -> x -> x.cell(0, v, w));
        }
    }

    private static void cellAnotherWhat() {
        refusedFor(NONE, outside(0, 6), "what", v -> x -> x.cell(0, 0, v));
    }

    private static void innerEdges() {
        InkOverInk x = full(16, 16, 15);
        yes("for 0", x.inner(15, 15, 0));
        for (int cell = 0; cell < 16; cell++) {
            no("for 15", x.inner(cell, cell, 15));
        }
        yes("for 7", x.inner(8, 8, 7));
        no("for 8", x.inner(8, 8, 8));
    }

    private static void innerAnotherN() {
        refusedFor(0, outside(0, 15), "n", v -> x -> number(x.inner(1, 0, v)));
    }

    private static void innerNoneSuch() {
        refusedFor(0, outside(0, 3), "row", v -> x -> number(x.inner(v, 0, 0)));
        refusedFor(0, outside(0, 4), "column", v -> x -> number(x.inner(0, v, 0)));
    }

    private static void lighterEdges() {
        InkOverInk x = new InkOverInk();
        yes("0 than 15", x.lighter(0, 15));
        no("15 than 0", x.lighter(15, 0));
        for (int colour = 0; colour < 16; colour++) {
            no(colour + " than itself", x.lighter(colour, colour));
        }
    }

    private static void lighterNoneSuch() {
        refusedFor(0, outside(0, 15), "a", v -> x -> number(x.lighter(v, 15)));
        refusedFor(0, outside(0, 15), "b", v -> x -> number(x.lighter(0, v)));
        refusedFor(0, outside(0, 15), "either", v -> x -> number(x.lighter(v, v)));
    }

    // Promises 13 to 16

    private static void trapEdges() {
        InkOverInk x = full(16, 16, 8);
        x.shape(0, 7, 7, 1, 1, 7, false);
        due("0", x.trap(0), 0);
        due("w", x.count(7), 0);
        due("6, of three inks", x.trap(6), 3 * 168);
        due("w", x.count(7), 6);
        due("0 again", x.trap(0), 0);
        due("nothing is left of it", x.plate(0, 6), 0);
    }

    private static void trapFromNowOn() {
        InkOverInk x = row(1, 0, 0);
        due("none yet", x.trap(2), 0);
        x.paint(1, 8, false);
        due("the shapes that change are trapped", x.plate(0, 0), 0b011);
        x.shape(0, 0, 2, 1, 1, 8, false);
        due("and those that come", x.plate(0, 0), 0b111);
        x.weight(0, 20);
        due("and the weights", x.plate(0, 0), 0b001);
        due("ink 3 grows now", x.plate(3, 0), 0b111);
    }

    private static void trapBesidesTheColours() {
        InkOverInk x = row(3, 10);
        due("ink 0 came, ink 1 was there", x.trap(1), 1);
        due("the same again: not what is new", x.trap(1), 1);
        x.paint(1, 11, false);
        due("both were there", x.trap(1), 0);
    }

    private static void trapWithoutAnything() {
        InkOverInk x = new InkOverInk();
        due("an empty page", x.trap(6), 0);
        x.shape(0, 0, 0, 8, 8, 15, false);
        due("a page of one colour", x.trap(6), 0);
        x.paint(0, 0, false);
        due("a page of paper", x.trap(6), 0);
    }

    private static void trapAnotherW() {
        refusedFor(NONE, outside(0, 6), "w", v -> x -> x.trap(v));
    }

    private static void offEdges() {
        InkOverInk x = new InkOverInk();
        x.page(16, 16);
        x.shape(0, 8, 8, 1, 1, 15, false);
        int[] ways = {-6, 6};
        for (int ink = 0; ink < 4; ink++) {
            for (int rows : ways) {
                for (int columns : ways) {
                    yes("off", x.off(ink, rows, columns));
                    due("there", x.cell(8 + rows, 8 + columns, 4), 1 << ink);
                    due("the rest", x.cell(8, 8, 4), 15 - (1 << ink));
                }
            }
            x.off(ink, 0, 0);
            due("right", x.cell(8, 8, 4), 15);
        }
    }

    private static void offInsteadOfBesides() {
        InkOverInk x = row(1, 0, 0);
        x.off(0, 0, 1);
        x.off(0, 0, 1);
        due("one column, not two", shown(x, 0, 0), 0b010);
    }

    private static void offNoInk() {
        refusedFor(0, outside(0, 3), "ink", v -> x -> number(x.off(v, 1, 1)));
    }

    private static void offOtherNumbers() {
        refusedFor(0, outside(-6, 6), "rows", v -> x -> number(x.off(0, v, 1)));
        refusedFor(0, outside(-6, 6), "columns", v -> x -> number(x.off(0, 1, v)));
    }

    private static void creepEdges() {
        InkOverInk x = new InkOverInk();
        int[] edges = {-8, 8, 0};
        for (int creep : edges) {
            yes("creep", x.creep(creep));
            due("is told", x.count(10), creep);
            due("reaches", x.count(3), Math.abs(creep) * 7 / 8);
        }
    }

    private static void creepOthers() {
        refusedFor(0, outside(-8, 8), "creep", v -> x -> number(x.creep(v)));
    }

    private static void rightAll() {
        InkOverInk x = full(16, 16, 15);
        for (int ink = 0; ink < 4; ink++) {
            x.off(ink, ink % 2 == 0 ? 6 : -6, ink < 2 ? 6 : -6);
        }
        x.creep(-8);
        x.right();
        due("reach", x.count(3), 0);
        due("creep", x.count(10), 0);
        due("wrong", x.count(2), 0);
        x.right();
        due("right already", x.count(2), 0);
    }

    private static void rightLeavesTheRest() {
        InkOverInk x = worked();
        x.right();
        // The frame's eight cells have two inks more, of the box around and within it.
        int[] counts = {20, 0, 8, 0, 48, 8, 3, 1, 4, 5, 0};
        for (int what = 0; what < counts.length; what++) {
            due("count " + what, x.count(what), counts[what]);
        }
        due("trapped still", x.cell(1, 1, 3), 11);
        yes("the image stays", x.again(1));
        due("as it was, with its creep", x.count(10), 3);
    }

    // Promise 17

    private static void countOfAnEmptyPage() {
        InkOverInk x = new InkOverInk();
        int[] counts = {0, 0, 0, 0, 0, 0, 0, 0, 8, 8, 0};
        for (int what = 0; what < counts.length; what++) {
            due("count " + what, x.count(what), counts[what]);
        }
    }

    private static void countOfAFullPage() {
        InkOverInk x = full(16, 16, 15);
        int[] counts = {256, 0, 0, 0, 1024, 256, 1, 0, 16, 16, 0};
        for (int what = 0; what < counts.length; what++) {
            due("count " + what, x.count(what), counts[what]);
        }
    }

    private static void countAllBare() {
        InkOverInk x = new InkOverInk();
        x.page(6, 16);
        x.shape(0, 0, 0, 6, 16, 1, false);
        x.off(0, 6, 0);
        due("all bare", x.count(1), 96);
        due("all wrong", x.count(2), 96);
        x.off(0, 5, 0);
        due("one row shows", x.count(1), 80);
        due("more than two: none", x.count(5), 0);
    }

    private static void countMoreThanTwo() {
        InkOverInk x = row(0, 1, 3, 7, 15);
        due("three and four inks", x.count(5), 2);
        x.off(2, 1, 0);
        due("three of four are left", x.count(5), 1);
        x.off(3, 1, 0);
        due("two of four", x.count(5), 0);
    }

    private static void countShownOnPaper() {
        InkOverInk x = row(7, 0);
        for (int ink = 0; ink < 3; ink++) {
            x.off(ink, 0, 1);
        }
        due("paper may show more than two", x.count(5), 1);
        due("both are wrong", x.count(2), 2);
        due("one is bare", x.count(1), 1);
    }

    private static void countAsItIsNow() {
        InkOverInk x = row(1, 8);
        due("not paper", x.count(0), 2);
        x.page(1, 1);
        due("on a lesser page", x.count(0), 1);
        due("plates", x.count(4), 1);
        x.page(1, 2);
        x.take(1);
        due("without the second", x.count(0), 1);
        x.off(0, 0, 1);
        due("bare", x.count(1), 1);
        x.off(0, 0, 0);
        due("not any more", x.count(1), 0);
    }

    private static void countAnotherWhat() {
        refusedFor(NONE, outside(0, 10), "what", v -> x -> x.count(v));
    }

    // Promises 18 to 20

    /** A light half and a dark half, eight columns each. */
    private static InkOverInk halves(int rows, int w) {
        InkOverInk x = full(rows, 16, 1);
        x.shape(0, 0, 8, rows, 8, 8, false);
        x.trap(w);
        return x;
    }

    private static void bareEdges() {
        InkOverInk x = full(7, 7, 1);
        due("right", x.bare(0, 0, 0), 0);
        int[] ways = {-6, 6};
        for (int way : ways) {
            due("rows", x.bare(0, way, 0), 42);
            due("columns", x.bare(0, 0, way), 42);
            due("both", x.bare(0, way, way), 48);
            due("one to each side", x.bare(0, way, -way), 48);
        }
    }

    private static void bareOneInkAlone() {
        InkOverInk x = full(2, 2, 3);
        x.off(1, 6, 6);
        x.off(2, 6, 6);
        due("the other lies right", x.bare(0, 6, 6), 0);
        x.paint(0, 1, false);
        x.off(0, 6, 6);
        due("as asked, not as it lies", x.bare(0, 0, 0), 0);
        due("another one is asked: this lies right", x.bare(1, 6, 6), 0);
        due("it still lies off", x.count(1), 4);
    }

    private static void bareWithoutCreep() {
        InkOverInk x = full(1, 16, 1);
        x.creep(-8);
        due("none", x.bare(0, 0, 0), 0);
        due("one", x.bare(0, 0, 1), 1);
        due("the creep is there still", x.count(1), 8);
    }

    private static void bareFineToo() {
        InkOverInk x = row(1, 1);
        x.paint(0, 1, true);
        due("a fine one", x.bare(0, 0, 1), 1);
        due("one at the page's end", x.bare(0, 0, -1), 1);
    }

    private static void bareUntilTheTrapEnds() {
        for (int w = 0; w < 6; w++) {
            InkOverInk x = halves(1, w);
            due("the dark one, by " + w, x.bare(3, 0, w), 0);
            due("and one more", x.bare(3, 0, w + 1), 1);
            due("the light one, by " + w, x.bare(0, 0, -w), 0);
            due("and one more", x.bare(0, 0, -w - 1), 1);
        }
    }

    private static void bareNoInk() {
        refusedFor(NONE, outside(0, 3), "ink", v -> x -> x.bare(v, 0, 0));
    }

    private static void bareOtherNumbers() {
        refusedFor(NONE, outside(-6, 6), "rows", v -> x -> x.bare(0, v, 0));
        refusedFor(NONE, outside(-6, 6), "columns", v -> x -> x.bare(0, 0, v));
    }

    private static void safeLeast() {
        due("a gap at once", halves(16, 0).safe(), 0);
    }

    private static void safeGreatest() {
        due("just not to the end", halves(16, 5).safe(), 5);
        due("to the end", halves(16, 6).safe(), 6);
        due("no gap at all: no more than 6", full(16, 16, 1).safe(), 6);
    }

    private static void safeInnerAlone() {
        InkOverInk x = full(2, 16, 1);
        due("no cell is inner for 1", x.safe(), 6);
        due("though cells would be bare", x.bare(0, 1, 0), 16);
        x = halves(16, 0);
        x.paint(1, 8, true);
        due("none inner beside a fine one", x.safe(), 6);
        x.paint(1, 0, false);
        due("none inner beside paper", x.safe(), 6);
    }

    private static void safeInEachWay() {
        for (int cell = 0; cell < 9; cell++) {
            if (cell == 4) {
                continue;
            }
            InkOverInk x = full(3, 3, 1);
            x.shape(0, cell / 3, cell % 3, 1, 1, 8, false);
            due("the plate lacks cell " + cell, x.safe(), 0);
            x.paint(1, 9, false);
            due("it has cell " + cell, x.safe(), 6);
        }
    }

    private static void safeOneInkAtATime() {
        InkOverInk x = full(3, 3, 4);
        x.shape(0, 1, 1, 1, 1, 3, false);
        due("the other ink is left", x.safe(), 6);
        for (int ink = 0; ink < 4; ink++) {
            x.paint(1, 1 << ink, false);
            due("ink " + ink + " alone", x.safe(), ink == 2 ? 6 : 0);
        }
    }

    private static void safeAllElseRight() {
        InkOverInk x = halves(16, 3);
        for (int ink = 0; ink < 4; ink++) {
            x.off(ink, 6, -6);
        }
        x.creep(8);
        due("as if they lay right", x.safe(), 3);
        due("they still do not", x.count(3), 9);
    }

    private static void safeAllLesserOnes() {
        InkOverInk x = halves(3, 0);
        due("for 1 it fails, and 2 has no inner cells", x.safe(), 0);
        x = halves(5, 1);
        due("for 2 it fails, and 3 has no inner cells", x.safe(), 1);
        x = halves(13, 5);
        due("for 6 it fails", x.safe(), 5);
        x = halves(11, 5);
        due("for 6 there are no inner cells", x.safe(), 6);
    }

    private static void plateBits() {
        InkOverInk x = full(16, 16, 8);
        due("all of the last row", x.plate(3, 15), 0xffff);
        due("no sign, no bit more", x.plate(3, 0), 65535);
        x.page(16, 1);
        due("one column", x.plate(3, 15), 1);
        due("no other ink", x.plate(0, 15), 0);
    }

    private static void plateNotAsItLies() {
        InkOverInk x = row(1, 0);
        x.off(0, 0, 1);
        x.creep(8);
        due("however it lies", x.plate(0, 0), 1);
    }

    private static void plateNoInk() {
        refusedFor(NONE, outside(0, 3), "ink", v -> x -> x.plate(v, 0));
    }

    private static void plateNoRow() {
        refusedFor(NONE, outside(0, 3), "row", v -> x -> x.plate(0, v));
    }

    // Promises 21 and 22

    private static void imageEdges() {
        InkOverInk x = new InkOverInk();
        int[] edges = {0, 3};
        for (int k : edges) {
            yes("image " + k, x.image(k));
            yes("again " + k, x.again(k));
        }
        no("none of 1", x.again(1));
        no("none of 2", x.again(2));
    }

    private static void imageAnother() {
        refusedFor(0, outside(0, 3), "image", v -> x -> number(x.image(v)));
    }

    private static void imageAsItIsNow() {
        InkOverInk x = worked();
        x.image(2);
        changeAll(x);
        yes("again", x.again(2));
        int[] now = told(x);
        int[] then = told(worked());
        for (int at = 0; at < then.length; at++) {
            due("answer " + at, now[at], then[at]);
        }
    }

    private static void changeAll(InkOverInk x) {
        x.page(16, 1);
        for (int ink = 0; ink < 4; ink++) {
            x.weight(ink, 20 - ink);
            x.off(ink, -ink, 6);
        }
        x.shape(1, 5, 5, 5, 5, 5, true);
        x.take(1);
        x.move(0, 1, 1);
        x.paint(0, 5, true);
        x.lift(2, false);
        x.trap(3);
        x.creep(-8);
    }

    private static void imageOverAnOlderOne() {
        InkOverInk x = row(1);
        x.image(0);
        x.paint(0, 2, false);
        x.image(0);
        x.paint(0, 4, false);
        x.again(0);
        due("the newer one", x.tell(0, 5), 2);
    }

    private static void imageOfAFullRow() {
        InkOverInk x = new InkOverInk();
        x.image(0);
        for (int number = 0; number < 30; number++) {
            x.shape(0, 0, 0, 1, 1, 1, false);
        }
        x.image(1);
        yes("the empty one", x.again(0));
        due("no shapes", x.count(6), 0);
        due("no first one", x.tell(0, 0), NONE);
        due("numbers from 0 on", x.shape(0, 0, 0, 1, 1, 2, false), 0);
        yes("the full one", x.again(1));
        due("thirty", x.count(6), 30);
        due("and no more", x.shape(0, 0, 0, 1, 1, 2, false), NONE);
        due("the first is as it was", x.tell(0, 5), 1);
    }

    private static void againWithoutImage() {
        int[] never = {0, 2, 3};
        refusedFor(0, never, "again", v -> x -> number(x.again(v)));
    }

    private static void againAnother() {
        refusedFor(0, outside(0, 3), "again", v -> x -> number(x.again(v)));
    }

    private static void againOtherImagesStay() {
        InkOverInk x = row(1);
        for (int k = 0; k < 4; k++) {
            x.paint(0, k + 4, false);
            x.image(k);
        }
        for (int k = 0; k < 4; k++) {
            yes("again " + k, x.again(k));
            due("as it was", x.tell(0, 5), k + 4);
            due("and its cell", x.cell(0, 0, 0), k + 4);
        }
        x.again(3);
        x.again(0);
        due("an older one after a newer", x.tell(0, 5), 4);
    }

    private static void againTwice() {
        InkOverInk x = row(1, 8);
        x.image(0);
        for (int time = 0; time < 2; time++) {
            changeAll(x);
            yes("again", x.again(0));
            due("two shapes", x.count(6), 2);
            due("the second", x.tell(1, 5), 8);
            due("columns", x.count(9), 2);
            due("reach", x.count(3), 0);
            yes("weights", x.lighter(3, 4));
        }
    }

    private static void againBringsBackTheTaken() {
        InkOverInk x = row(1, 2);
        x.image(0);
        x.take(1);
        x.shape(0, 0, 0, 1, 1, 4, false);
        x.again(0);
        due("it lies there", x.tell(1, 7), 1);
        due("what came later does not", x.tell(2, 0), NONE);
        yes("it can be taken", x.take(1));
        x.again(0);
        due("and comes back once more", x.count(6), 2);
    }

    // All of them

    private static void promises1To3() {
        test("1: A PAGE of 8 ROWS and 8 COLUMNS", PromiseBoundaryTest::newPage);
        test("1: no SHAPES", PromiseBoundaryTest::newWithoutShapes);
        test("1: TRAPPED by 0", PromiseBoundaryTest::newNotTrapped);
        test("1: all PLATES lie right, no CREEP", PromiseBoundaryTest::newLiesRight);
        test("1: no images", PromiseBoundaryTest::newWithoutImages);
        test("1: a new object is new", PromiseBoundaryTest::objectsShareNothing);
        test("2: so many ROWS and COLUMNS: true", PromiseBoundaryTest::pageOfEdges);
        test("2: so many as there are", PromiseBoundaryTest::pageAsItIs);
        test("2: SHAPES stay", PromiseBoundaryTest::shapesStay);
        test("2: false for others", PromiseBoundaryTest::pageOthers);
        test("3: An INK's WEIGHT: true", PromiseBoundaryTest::weightOfEdges);
        test("3: false: there is none such", PromiseBoundaryTest::weightOfNoInk);
        test("3: false: or another WEIGHT", PromiseBoundaryTest::anotherWeight);
    }

    private static void promises4To6() {
        test("4: comes, as the uppermost one: its number", PromiseBoundaryTest::comesUppermost);
        test("4: NONE: there are 30", PromiseBoundaryTest::thereAreThirty);
        test("4: NONE: also those taken away count", PromiseBoundaryTest::takenAwayCount);
        test("4: the least and greatest numbers", PromiseBoundaryTest::shapeOfEdges);
        test("4: NONE: another KIND", PromiseBoundaryTest::shapeOfOtherKind);
        test("4: NONE: another ROW", PromiseBoundaryTest::shapeOfOtherRow);
        test("4: NONE: another COLUMN", PromiseBoundaryTest::shapeOfOtherColumn);
        test("4: NONE: another HEIGHT", PromiseBoundaryTest::shapeOfOtherHeight);
        test("4: NONE: another WIDTH", PromiseBoundaryTest::shapeOfOtherWidth);
        test("4: NONE: another COLOUR", PromiseBoundaryTest::shapeOfOtherColour);
        test("5: is taken away: the only one", PromiseBoundaryTest::takeTheOnlyOne);
        test("5: is taken away: the lowest, one between, the uppermost", PromiseBoundaryTest::takeFromEachPlace);
        test("5: false if there is none such", PromiseBoundaryTest::takeNoneSuch);
        test("5: false if it was", PromiseBoundaryTest::takeItWas);
        test("6: goes to another place: true", PromiseBoundaryTest::moveToEdges);
        test("6: and stays in the row where it is", PromiseBoundaryTest::moveKeepsItsPlaceInTheRow);
        test("6: false if there is none such", PromiseBoundaryTest::moveNoneSuch);
        test("6: false if it can't be", PromiseBoundaryTest::moveCannotBe);
    }

    private static void promises7To9() {
        test("7: goes one up, or one down", PromiseBoundaryTest::liftOneStep);
        test("7: past those that lie there", PromiseBoundaryTest::liftOverTaken);
        test("7: false if it is the uppermost", PromiseBoundaryTest::liftUppermost);
        test("7: false if it is the lowest", PromiseBoundaryTest::liftLowest);
        test("7: false if it is both", PromiseBoundaryTest::liftTheOnlyOne);
        test("7: in a full row", PromiseBoundaryTest::liftThirty);
        test("7: false if there is none such", PromiseBoundaryTest::liftNoneSuch);
        test("8: another COLOUR, and is FINE or not: true", PromiseBoundaryTest::paintOfEdges);
        test("8: false if there is none such", PromiseBoundaryTest::paintNoneSuch);
        test("8: false: or another COLOUR", PromiseBoundaryTest::paintAnotherColour);
        test("9: what 0 .. 8", PromiseBoundaryTest::tellEdges);
        test("9: how many lie under it", PromiseBoundaryTest::tellHowManyUnder);
        test("9: on how many CELLS it is seen: none", PromiseBoundaryTest::tellSeenOnNone);
        test("9: NONE if there is none such", PromiseBoundaryTest::tellNoneSuch);
        test("9: NONE if there is none such any more", PromiseBoundaryTest::tellNotAnyMore);
        test("9: NONE for another what", PromiseBoundaryTest::tellAnotherWhat);
    }

    private static void promises10To12() {
        test("10: the SHAPE (NONE)", PromiseBoundaryTest::cellOfTheShape);
        test("10: what 0 .. 6", PromiseBoundaryTest::cellEdges);
        test("10: NONE if there is none such", PromiseBoundaryTest::cellNoneSuch);
        test("10: NONE for another what", PromiseBoundaryTest::cellAnotherWhat);
        test("11: for n, 0 .. 15", PromiseBoundaryTest::innerEdges);
        test("11: False for another n", PromiseBoundaryTest::innerAnotherN);
        test("11: False if there is none such", PromiseBoundaryTest::innerNoneSuch);
        test("12: LIGHTER: the first and last, and itself", PromiseBoundaryTest::lighterEdges);
        test("12: False if there is none such (of either)", PromiseBoundaryTest::lighterNoneSuch);
    }

    private static void promises13To16() {
        test("13: w 0 and 6", PromiseBoundaryTest::trapEdges);
        test("13: from now on", PromiseBoundaryTest::trapFromNowOn);
        test("13: besides those of the COLOURS", PromiseBoundaryTest::trapBesidesTheColours);
        test("13: none came", PromiseBoundaryTest::trapWithoutAnything);
        test("13: NONE for another w", PromiseBoundaryTest::trapAnotherW);
        test("14: lies off: true", PromiseBoundaryTest::offEdges);
        test("14: so, not so much more", PromiseBoundaryTest::offInsteadOfBesides);
        test("14: false: there is no such INK", PromiseBoundaryTest::offNoInk);
        test("14: false: or other numbers", PromiseBoundaryTest::offOtherNumbers);
        test("15: The CREEP: true", PromiseBoundaryTest::creepEdges);
        test("15: false for others", PromiseBoundaryTest::creepOthers);
        test("16: All PLATES lie right, and there is no CREEP", PromiseBoundaryTest::rightAll);
        test("16: and all else stays", PromiseBoundaryTest::rightLeavesTheRest);
    }

    private static void promise17() {
        test("17: an empty page", PromiseBoundaryTest::countOfAnEmptyPage);
        test("17: a full page", PromiseBoundaryTest::countOfAFullPage);
        test("17: BARE ones: all", PromiseBoundaryTest::countAllBare);
        test("17: those that show more than two INKS", PromiseBoundaryTest::countMoreThanTwo);
        test("17: those that show more than two INKS: paper too", PromiseBoundaryTest::countShownOnPaper);
        test("17: Of the PAGE as it is now", PromiseBoundaryTest::countAsItIsNow);
        test("17: NONE for another what", PromiseBoundaryTest::countAnotherWhat);
    }

    private static void promises18To20() {
        test("18: by so many ROWS and COLUMNS (-6 .. 6)", PromiseBoundaryTest::bareEdges);
        test("18: one INK's PLATE, all else right", PromiseBoundaryTest::bareOneInkAlone);
        test("18: without CREEP", PromiseBoundaryTest::bareWithoutCreep);
        test("18: FINE ones, and those at the end of the PAGE", PromiseBoundaryTest::bareFineToo);
        test("18: none BARE as far as TRAPPED, one beyond", PromiseBoundaryTest::bareUntilTheTrapEnds);
        test("18: NONE: there is no such INK", PromiseBoundaryTest::bareNoInk);
        test("18: NONE: or other numbers", PromiseBoundaryTest::bareOtherNumbers);
        test("19: 0 ..", PromiseBoundaryTest::safeLeast);
        test("19: .. 6", PromiseBoundaryTest::safeGreatest);
        test("19: no CELL that is INNER for n", PromiseBoundaryTest::safeInnerAlone);
        test("19: however by at most n ROWS and COLUMNS", PromiseBoundaryTest::safeInEachWay);
        test("19: one INK's PLATE", PromiseBoundaryTest::safeOneInkAtATime);
        test("19: (all else right, no CREEP)", PromiseBoundaryTest::safeAllElseRight);
        test("19: and likewise for all lesser ones", PromiseBoundaryTest::safeAllLesserOnes);
        test("20: as bits (bit c: COLUMN c)", PromiseBoundaryTest::plateBits);
        test("20: The PLATE, however it lies", PromiseBoundaryTest::plateNotAsItLies);
        test("20: NONE if there is none such: an INK", PromiseBoundaryTest::plateNoInk);
        test("20: NONE if there is none such: a ROW", PromiseBoundaryTest::plateNoRow);
    }

    private static void promises21And22() {
        test("21: Image k (0 .. 3): true", PromiseBoundaryTest::imageEdges);
        test("21: false for another k", PromiseBoundaryTest::imageAnother);
        test("21: all that is told, as it is now", PromiseBoundaryTest::imageAsItIsNow);
        test("21: over an older one", PromiseBoundaryTest::imageOverAnOlderOne);
        test("21: of no SHAPES and of all 30", PromiseBoundaryTest::imageOfAFullRow);
        test("22: false if there is none such: no image yet", PromiseBoundaryTest::againWithoutImage);
        test("22: false if there is none such: another k", PromiseBoundaryTest::againAnother);
        test("22: (other images stay)", PromiseBoundaryTest::againOtherImagesStay);
        test("22: as image k has it, each time", PromiseBoundaryTest::againTwice);
        test("22: All that is: what was taken away, too", PromiseBoundaryTest::againBringsBackTheTaken);
    }

    public static void main(String[] args) {
        promises1To3();
        promises4To6();
        promises7To9();
        promises10To12();
        promises13To16();
        promise17();
        promises18To20();
        promises21And22();
        end("PromiseBoundaryTest");
    }
}
