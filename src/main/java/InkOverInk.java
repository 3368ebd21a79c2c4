import java.util.Arrays;

/** Pages of coloured shapes, printed one ink after the other on paper that creeps. */
public final class InkOverInk {
    public static final int NONE = -1;

    private static final int SIDE = 16;
    private static final int FIRST_SIDE = 8;
    private static final int INKS = 4;
    private static final int MOST_WEIGHT = 20;
    private static final int COLOURS = 16;
    private static final int PAPER = 0;

    private static final int MOST_SHAPES = 30;
    private static final int LEAST_PLACE = -16;
    private static final int MOST_PLACE = 31;
    private static final int MOST_LENGTH = 32;
    private static final int BOX = 0;
    private static final int OVAL = 1;
    private static final int CORNER = 2;
    private static final int FRAME = 3;

    private static final int MOST_TRAP = 6;
    private static final int MOST_OFF = 6;
    private static final int MOST_CREEP = 8;
    private static final int CREEP_PARTS = 8;
    private static final int MOST_INNER = 15;
    private static final int MANY_INKS = 2;
    private static final int IMAGES = 4;

    // What the press has worked out so far; each step rests on those before it.
    private static final int NOTHING = 0;
    private static final int PICTURE = 1;
    private static final int PLATES = 2;
    private static final int PROOF = 3;

    private final Sheet now;
    private final Press press;
    private final Sheet[] images;

    public InkOverInk() {
        now = new Sheet();
        press = new Press();
        images = new Sheet[IMAGES];
    }

    public boolean page(int rows, int columns) {
        if (!isWithin(rows, 1, SIDE) || !isWithin(columns, 1, SIDE)) {
            return false;
        }
        now.rows = rows;
        now.columns = columns;
        press.keepOnly(NOTHING);
        return true;
    }

    public boolean weight(int ink, int weight) {
        if (!isInk(ink) || !isWithin(weight, 0, MOST_WEIGHT)) {
            return false;
        }
        now.weights[ink] = weight;
        press.keepOnly(PICTURE);
        return true;
    }

    public int shape(int kind, int row, int column, int height, int width, int colour, boolean fine) {
        boolean known = isWithin(kind, BOX, FRAME) && isColour(colour);
        boolean sized = isWithin(height, 1, MOST_LENGTH) && isWithin(width, 1, MOST_LENGTH);
        if (!known || !sized || !isPlace(row, column)) {
            return NONE;
        }
        int number = now.add(new Shape(kind, row, column, height, width, colour, fine));
        press.keepOnly(NOTHING);
        return number;
    }

    public boolean take(int shape) {
        if (now.find(shape) == null) {
            return false;
        }
        now.drop(shape);
        press.keepOnly(NOTHING);
        return true;
    }

    public boolean move(int shape, int row, int column) {
        Shape old = now.find(shape);
        if (old == null || !isPlace(row, column)) {
            return false;
        }
        now.replace(shape, old.movedTo(row, column));
        press.keepOnly(NOTHING);
        return true;
    }

    public boolean lift(int shape, boolean up) {
        if (now.find(shape) == null || !now.swap(shape, up ? 1 : -1)) {
            return false;
        }
        press.keepOnly(NOTHING);
        return true;
    }

    public boolean paint(int shape, int colour, boolean fine) {
        Shape old = now.find(shape);
        if (old == null || !isColour(colour)) {
            return false;
        }
        now.replace(shape, old.painted(colour, fine));
        press.keepOnly(NOTHING);
        return true;
    }

    public int tell(int shape, int what) {
        Shape told = now.find(shape);
        if (told == null) {
            return NONE;
        }
        switch (what) {
            case 0: return told.kind;
            case 1: return told.row;
            case 2: return told.column;
            case 3: return told.height;
            case 4: return told.width;
            case 5: return told.colour;
            case 6: return told.fine ? 1 : 0;
            case 7: return now.placeOf(shape);
            case 8:
                press.work(now, PICTURE);
                return press.cellsOf(shape);
            default: return NONE;
        }
    }

    public int cell(int row, int column, int what) {
        if (!now.hasCell(row, column)) {
            return NONE;
        }
        press.work(now, what <= 2 ? PICTURE : what == 3 ? PLATES : PROOF);
        switch (what) {
            case 0: return press.inked.through(row, column);
            case 1: return now.isFine(press.seenAt(row, column)) ? 1 : 0;
            case 2: return press.seenAt(row, column);
            case 3: return press.plates.through(row, column);
            case 4: return press.shown.through(row, column);
            case 5: return press.bareIn(row) >> column & 1;
            case 6: return press.wrongIn(row) >> column & 1;
            default: return NONE;
        }
    }

    public boolean inner(int row, int column, int n) {
        if (!now.hasCell(row, column) || !isWithin(n, 0, MOST_INNER)) {
            return false;
        }
        press.work(now, PICTURE);
        return (press.solid.surrounded(0, row, n) >> column & 1) == 1;
    }

    public boolean lighter(int a, int b) {
        return isColour(a) && isColour(b) && now.isLighter(a, b);
    }

    public int trap(int w) {
        if (!isWithin(w, 0, MOST_TRAP)) {
            return NONE;
        }
        now.trapped = w;
        press.keepOnly(PICTURE);
        press.work(now, PLATES);
        return press.plates.size() - press.inked.size();
    }

    public boolean off(int ink, int rows, int columns) {
        if (!isInk(ink) || !isOff(rows, columns)) {
            return false;
        }
        now.down[ink] = rows;
        now.across[ink] = columns;
        press.keepOnly(PLATES);
        return true;
    }

    public boolean creep(int creep) {
        if (!isWithin(creep, -MOST_CREEP, MOST_CREEP)) {
            return false;
        }
        now.creeping = creep;
        press.keepOnly(PLATES);
        return true;
    }

    public void right() {
        now.layRight();
        press.keepOnly(PLATES);
    }

    public int count(int what) {
        switch (what) {
            case 0:
                press.work(now, PICTURE);
                return press.colouredCells();
            case 1:
                press.work(now, PROOF);
                return press.bareCells();
            case 2:
                press.work(now, PROOF);
                return press.wrongCells();
            case 3: return now.reach();
            case 4:
                press.work(now, PLATES);
                return press.plates.size();
            case 5:
                press.work(now, PROOF);
                return press.crowdedCells();
            case 6: return now.lying;
            case 7: return now.trapped;
            case 8: return now.rows;
            case 9: return now.columns;
            case 10: return now.creeping;
            default: return NONE;
        }
    }

    public int bare(int ink, int rows, int columns) {
        if (!isInk(ink) || !isOff(rows, columns)) {
            return NONE;
        }
        press.work(now, PLATES);
        return press.bareCellsIf(ink, rows, columns);
    }

    public int safe() {
        press.work(now, PLATES);
        int n = 0;
        while (n < MOST_OFF && press.isSafe(n + 1)) {
            n++;
        }
        return n;
    }

    public int plate(int ink, int row) {
        if (!isInk(ink) || !isWithin(row, 0, now.rows - 1)) {
            return NONE;
        }
        press.work(now, PLATES);
        return press.plates.bits(ink, row);
    }

    public boolean image(int k) {
        if (!isWithin(k, 0, IMAGES - 1)) {
            return false;
        }
        Sheet kept = images[k];
        if (kept == null) {
            kept = new Sheet();
            images[k] = kept;
        }
        kept.become(now);
        return true;
    }

    public boolean again(int k) {
        if (!isWithin(k, 0, IMAGES - 1)) {
            return false;
        }
        Sheet kept = images[k];
        if (kept == null) {
            return false;
        }
        now.become(kept);
        press.keepOnly(NOTHING);
        return true;
    }

    private static boolean isWithin(int value, int least, int most) {
        return value >= least && value <= most;
    }

    private static boolean isInk(int ink) {
        return isWithin(ink, 0, INKS - 1);
    }

    private static boolean isColour(int colour) {
        return isWithin(colour, 0, COLOURS - 1);
    }

    private static boolean isPlace(int row, int column) {
        return isWithin(row, LEAST_PLACE, MOST_PLACE) && isWithin(column, LEAST_PLACE, MOST_PLACE);
    }

    private static boolean isOff(int rows, int columns) {
        return isWithin(rows, -MOST_OFF, MOST_OFF) && isWithin(columns, -MOST_OFF, MOST_OFF);
    }

    private static boolean hasInk(int colour, int ink) {
        return (colour >> ink & 1) == 1;
    }

    /** A shape never changes, so that the images and the present may share it. */
    private static final class Shape {
        final int kind;
        final int row;
        final int column;
        final int height;
        final int width;
        final int colour;
        final boolean fine;

        Shape(int kind, int row, int column, int height, int width, int colour, boolean fine) {
            this.kind = kind;
            this.row = row;
            this.column = column;
            this.height = height;
            this.width = width;
            this.colour = colour;
            this.fine = fine;
        }

        Shape movedTo(int newRow, int newColumn) {
            return new Shape(kind, newRow, newColumn, height, width, colour, fine);
        }

        Shape painted(int newColour, boolean newFine) {
            return new Shape(kind, row, column, height, width, newColour, newFine);
        }

        boolean covers(int pageRow, int pageColumn) {
            int r = pageRow - row;
            int c = pageColumn - column;
            if (!isWithin(r, 0, height - 1) || !isWithin(c, 0, width - 1)) {
                return false;
            }
            switch (kind) {
                case OVAL: return isInOval(r, c);
                case CORNER: return r * width <= c * height;
                case FRAME: return r == 0 || r == height - 1 || c == 0 || c == width - 1;
                default: return true;
            }
        }

        private boolean isInOval(int r, int c) {
            // Counted in half cells from the box's middle, so that no fraction is lost.
            int fromMiddle = (2 * r + 1 - height) * width;
            int beside = (2 * c + 1 - width) * height;
            int limit = height * width;
            return fromMiddle * fromMiddle + beside * beside <= limit * limit;
        }
    }

    /** All that has been told: what an image keeps, and nothing that can be worked out from it. */
    private static final class Sheet {
        int rows;
        int columns;
        int trapped;
        int creeping;
        int lying;
        private int made;
        final int[] weights;
        final int[] down;
        final int[] across;
        private final int[] order;
        private final Shape[] shapes;

        Sheet() {
            rows = FIRST_SIDE;
            columns = FIRST_SIDE;
            weights = new int[] {1, 3, 4, 8};
            down = new int[INKS];
            across = new int[INKS];
            order = new int[MOST_SHAPES];
            shapes = new Shape[MOST_SHAPES];
        }

        void become(Sheet other) {
            rows = other.rows;
            columns = other.columns;
            trapped = other.trapped;
            creeping = other.creeping;
            lying = other.lying;
            made = other.made;
            System.arraycopy(other.weights, 0, weights, 0, INKS);
            System.arraycopy(other.down, 0, down, 0, INKS);
            System.arraycopy(other.across, 0, across, 0, INKS);
            System.arraycopy(other.order, 0, order, 0, MOST_SHAPES);
            for (int number = 0; number < MOST_SHAPES; number++) {
                shapes[number] = other.shapes[number];
            }
        }

        boolean hasCell(int row, int column) {
            return isWithin(row, 0, rows - 1) && isWithin(column, 0, columns - 1);
        }

        Shape find(int number) {
            return isWithin(number, 0, MOST_SHAPES - 1) ? shapes[number] : null;
        }

        boolean isFine(int number) {
            Shape shape = find(number);
            return shape != null && shape.fine;
        }

        int add(Shape shape) {
            if (made >= MOST_SHAPES || lying >= MOST_SHAPES) {
                return NONE;
            }
            int number = made;
            shapes[number] = shape;
            order[lying] = number;
            made++;
            lying++;
            return number;
        }

        void replace(int number, Shape shape) {
            if (isWithin(number, 0, MOST_SHAPES - 1)) {
                shapes[number] = shape;
            }
        }

        void drop(int number) {
            int place = placeOf(number);
            if (place == NONE) {
                return;
            }
            for (int above = place + 1; above < lying; above++) {
                order[above - 1] = order[above];
            }
            lying--;
            replace(number, null);
        }

        int numberAt(int place) {
            return isWithin(place, 0, MOST_SHAPES - 1) ? order[place] : NONE;
        }

        int placeOf(int number) {
            for (int place = 0; place < lying; place++) {
                if (numberAt(place) == number) {
                    return place;
                }
            }
            return NONE;
        }

        boolean swap(int number, int step) {
            int place = placeOf(number);
            int other = place + step;
            if (place == NONE || !isWithin(other, 0, lying - 1)) {
                return false;
            }
            order[place] = order[other];
            order[other] = number;
            return true;
        }

        void layRight() {
            creeping = 0;
            Arrays.fill(down, 0);
            Arrays.fill(across, 0);
        }

        boolean isLighter(int a, int b) {
            int darkA = darkness(a);
            int darkB = darkness(b);
            return darkA < darkB || darkA == darkB && a < b;
        }

        /** The colours that one colour is lighter than, as bits. */
        int darkerThan(int colour) {
            int found = 0;
            for (int other = 0; other < COLOURS; other++) {
                if (isLighter(colour, other)) {
                    found |= 1 << other;
                }
            }
            return found;
        }

        private int darkness(int colour) {
            int sum = 0;
            for (int ink = 0; ink < INKS; ink++) {
                if (hasInk(colour, ink)) {
                    sum += weights[ink];
                }
            }
            return sum;
        }

        int offColumns(int ink, int column) {
            return across[ink] + column * creeping / CREEP_PARTS;
        }

        int reach() {
            int most = 0;
            for (int ink = 0; ink < INKS; ink++) {
                most = Math.max(most, Math.abs(down[ink]));
                for (int column = 0; column < columns; column++) {
                    most = Math.max(most, Math.abs(offColumns(ink, column)));
                }
            }
            return most;
        }
    }

    /** Sets of cells, one a layer: a word for each row, with bit c for column c. */
    private static final class Layers {
        private final int many;
        private final int[] words;

        Layers(int many) {
            this.many = Math.max(many, 0);
            this.words = new int[this.many * SIDE];
        }

        void clear() {
            Arrays.fill(words, 0);
        }

        void become(Layers other) {
            System.arraycopy(other.words, 0, words, 0, Math.min(words.length, other.words.length));
        }

        /** A row outside of the page is an empty one, so that no caller needs to cut its window. */
        int bits(int layer, int row) {
            return isRow(layer, row) ? words[layer * SIDE + row] : 0;
        }

        void join(int layer, int row, int bits) {
            if (isRow(layer, row)) {
                words[layer * SIDE + row] |= bits;
            }
        }

        private boolean isRow(int layer, int row) {
            return layer >= 0 && layer < many && row >= 0 && row < SIDE;
        }

        boolean has(int layer, int row, int column) {
            return isWithin(column, 0, SIDE - 1) && (bits(layer, row) >> column & 1) == 1;
        }

        /** The layers that have a cell, as bits. */
        int through(int row, int column) {
            int found = 0;
            for (int layer = 0; layer < many; layer++) {
                if (has(layer, row, column)) {
                    found |= 1 << layer;
                }
            }
            return found;
        }

        /** The cells of a row that some layer has, one layer left out (NONE: all looked at). */
        int anyBut(int left, int row) {
            int found = 0;
            for (int layer = 0; layer < many; layer++) {
                if (layer != left) {
                    found |= bits(layer, row);
                }
            }
            return found;
        }

        int size() {
            int sum = 0;
            for (int at = 0; at < words.length; at++) {
                sum += Integer.bitCount(words[at]);
            }
            return sum;
        }

        /** The columns of a row with some cell of the layer at most n rows and columns away. */
        int near(int layer, int row, int n) {
            int some = 0;
            for (int r = row - n; r <= row + n; r++) {
                some |= bits(layer, r);
            }
            int found = some;
            for (int c = 1; c <= n; c++) {
                found |= some << c | some >>> c;
            }
            return found;
        }

        /** The columns of a row with nothing but cells of the layer at most n rows and columns away. */
        int surrounded(int layer, int row, int n) {
            int all = bits(layer, row);
            for (int r = row - n; r <= row + n; r++) {
                all &= bits(layer, r);
            }
            int found = all;
            for (int c = 1; c <= n; c++) {
                found &= all << c & all >>> c;
            }
            return found;
        }
    }

    /** What follows from a sheet; worked out only when asked for, and kept while it holds. */
    private static final class Press {
        private final int[] seen;
        private final Layers open;
        final Layers inked;
        final Layers solid;
        final Layers plates;
        final Layers shown;
        private int done;

        Press() {
            seen = new int[SIDE * SIDE];
            open = new Layers(COLOURS);
            inked = new Layers(INKS);
            solid = new Layers(1);
            plates = new Layers(INKS);
            shown = new Layers(INKS);
            done = NOTHING;
        }

        void keepOnly(int step) {
            done = Math.min(done, step);
        }

        void work(Sheet sheet, int step) {
            if (done < PICTURE && step >= PICTURE) {
                drawPicture(sheet);
                done = PICTURE;
            }
            if (done < PLATES && step >= PLATES) {
                makePlates(sheet);
                done = PLATES;
            }
            if (done < PROOF && step >= PROOF) {
                pullProof(sheet);
                done = PROOF;
            }
        }

        private void drawPicture(Sheet sheet) {
            Arrays.fill(seen, NONE);
            open.clear();
            inked.clear();
            solid.clear();
            // From the uppermost one down: a cell that is taken once stays taken.
            for (int place = sheet.lying - 1; place >= 0; place--) {
                int number = sheet.numberAt(place);
                Shape shape = sheet.find(number);
                if (shape != null) {
                    draw(sheet, number, shape);
                }
            }
        }

        private void draw(Sheet sheet, int number, Shape shape) {
            int rowEnd = Math.min(sheet.rows, shape.row + shape.height);
            int columnEnd = Math.min(sheet.columns, shape.column + shape.width);
            for (int row = Math.max(0, shape.row); row < rowEnd; row++) {
                for (int column = Math.max(0, shape.column); column < columnEnd; column++) {
                    if (seenAt(row, column) == NONE && shape.covers(row, column)) {
                        mark(row, column, number, shape);
                    }
                }
            }
        }

        private void mark(int row, int column, int number, Shape shape) {
            if (!isInGrid(row, column)) {
                return;
            }
            seen[row * SIDE + column] = number;
            int bit = 1 << column;
            for (int ink = 0; ink < INKS; ink++) {
                if (hasInk(shape.colour, ink)) {
                    inked.join(ink, row, bit);
                }
            }
            if (shape.colour != PAPER && !shape.fine) {
                open.join(shape.colour, row, bit);
                solid.join(0, row, bit);
            }
        }

        private static boolean isInGrid(int row, int column) {
            return isWithin(row, 0, SIDE - 1) && isWithin(column, 0, SIDE - 1);
        }

        int seenAt(int row, int column) {
            return isInGrid(row, column) ? seen[row * SIDE + column] : NONE;
        }

        int cellsOf(int number) {
            int sum = 0;
            for (int at = 0; at < seen.length; at++) {
                if (seen[at] == number) {
                    sum++;
                }
            }
            return sum;
        }

        private void makePlates(Sheet sheet) {
            plates.become(inked);
            if (sheet.trapped == 0) {
                return;
            }
            for (int colour = PAPER + 1; colour < COLOURS; colour++) {
                grow(colour, sheet.darkerThan(colour), sheet.trapped);
            }
        }

        private void grow(int colour, int darker, int w) {
            for (int row = 0; row < SIDE; row++) {
                int near = open.near(colour, row, w);
                int gained = near == 0 ? 0 : near & openOf(darker, row);
                for (int ink = 0; gained != 0 && ink < INKS; ink++) {
                    if (hasInk(colour, ink)) {
                        plates.join(ink, row, gained);
                    }
                }
            }
        }

        private int openOf(int colours, int row) {
            int found = 0;
            for (int colour = PAPER + 1; colour < COLOURS; colour++) {
                if ((colours >> colour & 1) == 1) {
                    found |= open.bits(colour, row);
                }
            }
            return found;
        }

        private void pullProof(Sheet sheet) {
            shown.clear();
            for (int ink = 0; ink < INKS; ink++) {
                for (int column = 0; column < sheet.columns; column++) {
                    pullColumn(sheet, ink, column);
                }
            }
        }

        private void pullColumn(Sheet sheet, int ink, int column) {
            int from = column - sheet.offColumns(ink, column);
            int down = sheet.down[ink];
            for (int row = 0; row < sheet.rows; row++) {
                if (plates.has(ink, row - down, from)) {
                    shown.join(ink, row, 1 << column);
                }
            }
        }

        int bareIn(int row) {
            return inked.anyBut(NONE, row) & ~shown.anyBut(NONE, row);
        }

        int wrongIn(int row) {
            int found = 0;
            for (int ink = 0; ink < INKS; ink++) {
                found |= inked.bits(ink, row) ^ shown.bits(ink, row);
            }
            return found;
        }

        int colouredCells() {
            int sum = 0;
            for (int row = 0; row < SIDE; row++) {
                sum += Integer.bitCount(inked.anyBut(NONE, row));
            }
            return sum;
        }

        int bareCells() {
            int sum = 0;
            for (int row = 0; row < SIDE; row++) {
                sum += Integer.bitCount(bareIn(row));
            }
            return sum;
        }

        int wrongCells() {
            int sum = 0;
            for (int row = 0; row < SIDE; row++) {
                sum += Integer.bitCount(wrongIn(row));
            }
            return sum;
        }

        int crowdedCells() {
            int sum = 0;
            for (int row = 0; row < SIDE; row++) {
                for (int column = 0; column < SIDE; column++) {
                    if (Integer.bitCount(shown.through(row, column)) > MANY_INKS) {
                        sum++;
                    }
                }
            }
            return sum;
        }

        int bareCellsIf(int ink, int down, int across) {
            int sum = 0;
            for (int row = 0; row < SIDE; row++) {
                int from = plates.bits(ink, row - down);
                int moved = across >= 0 ? from << across : from >>> -across;
                sum += Integer.bitCount(inked.anyBut(NONE, row) & ~plates.anyBut(ink, row) & ~moved);
            }
            return sum;
        }

        /**
         * Whether no inner cell can be bare with one plate at most n off. A cell that another plate
         * has never is; one that has but this plate is not if the plate has all cells around it,
         * which for an inner cell are all in the page.
         */
        boolean isSafe(int n) {
            for (int row = 0; row < SIDE; row++) {
                int inner = solid.surrounded(0, row, n);
                for (int ink = 0; inner != 0 && ink < INKS; ink++) {
                    if ((inner & ~plates.anyBut(ink, row) & ~plates.surrounded(ink, row, n)) != 0) {
                        return false;
                    }
                }
            }
            return true;
        }
    }
}
