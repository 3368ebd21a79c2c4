import java.util.ArrayList;
import java.util.List;
import java.util.Random;

/** Long runs of drawn calls beside a twin that follows the document's words cell by cell and keeps nothing. */
public final class TwinTest {
    private static final int RUNS = 400;
    private static final int CALLS = 512;
    private static final int NONE = -1;

    private static int wrong = 0;
    private static int calls = 0;

    private record Form(int kind, int row, int column, int height, int width, int colour, boolean fine) {
        boolean has(int pageRow, int pageColumn) {
            long r = pageRow - row;
            long c = pageColumn - column;
            long h = height;
            long w = width;
            if (r < 0 || c < 0 || r >= h || c >= w) {
                return false;
            }
            long a = 2 * r + 1 - h;
            long b = 2 * c + 1 - w;
            return switch (kind) {
                case 0 -> true;
                case 1 -> a * a * w * w + b * b * h * h <= h * h * w * w;
                case 2 -> r * w <= c * h;
                default -> r == 0 || c == 0 || r == h - 1 || c == w - 1;
            };
        }
    }

    private static final class Twin {
        int rows = 8;
        int columns = 8;
        int w = 0;
        int creep = 0;
        int[] weights = {1, 3, 4, 8};
        int[] down = new int[4];
        int[] across = new int[4];
        List<Form> forms = new ArrayList<>();
        List<Integer> pile = new ArrayList<>();
        Twin[] images = new Twin[4];

        void copy(Twin o) {
            rows = o.rows;
            columns = o.columns;
            w = o.w;
            creep = o.creep;
            weights = o.weights.clone();
            down = o.down.clone();
            across = o.across.clone();
            forms = new ArrayList<>(o.forms);
            pile = new ArrayList<>(o.pile);
        }

        boolean in(int row, int column) {
            return row >= 0 && row < rows && column >= 0 && column < columns;
        }

        boolean lies(int shape) {
            return pile.contains(shape);
        }

        int shapeAt(int row, int column) {
            int found = NONE;
            for (int shape : pile) {
                if (forms.get(shape).has(row, column)) {
                    found = shape;
                }
            }
            return found;
        }

        int colour(int row, int column) {
            int s = shapeAt(row, column);
            return s == NONE ? 0 : forms.get(s).colour();
        }

        boolean fine(int row, int column) {
            int s = shapeAt(row, column);
            return s != NONE && forms.get(s).fine();
        }

        int darkness(int colour) {
            int sum = 0;
            for (int ink = 0; ink < 4; ink++) {
                sum += (colour & 1 << ink) != 0 ? weights[ink] : 0;
            }
            return sum;
        }

        boolean lighter(int a, int b) {
            return darkness(a) == darkness(b) ? a < b : darkness(a) < darkness(b);
        }

        /** The picture is drawn once a question, as the twin would else be too slow to be of use. */
        int[][] colours() {
            int[][] all = new int[rows][columns];
            for (int r = 0; r < rows; r++) {
                for (int c = 0; c < columns; c++) {
                    all[r][c] = colour(r, c);
                }
            }
            return all;
        }

        boolean[][] fines() {
            boolean[][] all = new boolean[rows][columns];
            for (int r = 0; r < rows; r++) {
                for (int c = 0; c < columns; c++) {
                    all[r][c] = fine(r, c);
                }
            }
            return all;
        }

        boolean plateHas(int ink, int r, int c, int[][] col, boolean[][] fine) {
            if (!in(r, c)) {
                return false;
            }
            if ((col[r][c] & 1 << ink) != 0) {
                return true;
            }
            if (col[r][c] == 0 || fine[r][c]) {
                return false;
            }
            for (int y = r - w; y <= r + w; y++) {
                for (int x = c - w; x <= c + w; x++) {
                    if (in(y, x) && !fine[y][x] && (col[y][x] & 1 << ink) != 0 && lighter(col[y][x], col[r][c])) {
                        return true;
                    }
                }
            }
            return false;
        }

        boolean[][][] plates() {
            int[][] col = colours();
            boolean[][] fine = fines();
            boolean[][][] all = new boolean[4][rows][columns];
            for (int ink = 0; ink < 4; ink++) {
                for (int r = 0; r < rows; r++) {
                    for (int c = 0; c < columns; c++) {
                        all[ink][r][c] = plateHas(ink, r, c, col, fine);
                    }
                }
            }
            return all;
        }

        int shows(boolean[][][] plates, int r, int c, int[] dr, int[] dc, int creeping) {
            int inks = 0;
            for (int ink = 0; ink < 4; ink++) {
                int y = r - dr[ink];
                int x = c - dc[ink] - (int) ((double) (c * creeping) / 8.0);
                if (in(y, x) && plates[ink][y][x]) {
                    inks |= 1 << ink;
                }
            }
            return inks;
        }

        boolean inner(int row, int column, int n, int[][] col, boolean[][] fine) {
            for (int y = row - n; y <= row + n; y++) {
                for (int x = column - n; x <= column + n; x++) {
                    if (!in(y, x) || col[y][x] == 0 || fine[y][x]) {
                        return false;
                    }
                }
            }
            return true;
        }

        int bare(int ink, int y, int x) {
            int[][] col = colours();
            boolean[][][] plates = plates();
            int[] dr = new int[4];
            int[] dc = new int[4];
            dr[ink] = y;
            dc[ink] = x;
            int sum = 0;
            for (int r = 0; r < rows; r++) {
                for (int c = 0; c < columns; c++) {
                    sum += col[r][c] != 0 && shows(plates, r, c, dr, dc, 0) == 0 ? 1 : 0;
                }
            }
            return sum;
        }

        int safe() {
            int n = 0;
            while (n < 6 && safeFor(n + 1)) {
                n++;
            }
            return n;
        }

        boolean safeFor(int n) {
            int[][] col = colours();
            boolean[][] fine = fines();
            boolean[][][] plates = plates();
            for (int r = 0; r < rows; r++) {
                for (int c = 0; c < columns; c++) {
                    if (inner(r, c, n, col, fine) && canBeBare(plates, r, c, n)) {
                        return false;
                    }
                }
            }
            return true;
        }

        boolean canBeBare(boolean[][][] plates, int r, int c, int n) {
            for (int ink = 0; ink < 4; ink++) {
                int[] dr = new int[4];
                int[] dc = new int[4];
                for (int y = -n; y <= n; y++) {
                    for (int x = -n; x <= n; x++) {
                        dr[ink] = y;
                        dc[ink] = x;
                        if (shows(plates, r, c, dr, dc, 0) == 0) {
                            return true;
                        }
                    }
                }
            }
            return false;
        }

        int reach() {
            int most = 0;
            for (int ink = 0; ink < 4; ink++) {
                for (int c = 0; c < columns; c++) {
                    int x = across[ink] + (int) ((double) (c * creep) / 8.0);
                    most = Math.max(most, Math.max(Math.abs(down[ink]), Math.abs(x)));
                }
            }
            return most;
        }

        int plateCells() {
            int sum = 0;
            boolean[][][] plates = plates();
            for (boolean[][] plate : plates) {
                for (boolean[] row : plate) {
                    for (boolean cell : row) {
                        sum += cell ? 1 : 0;
                    }
                }
            }
            return sum;
        }

        int colourCells() {
            int sum = 0;
            for (int[] row : colours()) {
                for (int colour : row) {
                    sum += Integer.bitCount(colour);
                }
            }
            return sum;
        }

        int countCells(int what) {
            int[][] col = colours();
            boolean[][][] plates = plates();
            int sum = 0;
            for (int r = 0; r < rows; r++) {
                for (int c = 0; c < columns; c++) {
                    int shown = shows(plates, r, c, down, across, creep);
                    boolean counts = switch (what) {
                        case 0 -> col[r][c] != 0;
                        case 1 -> col[r][c] != 0 && shown == 0;
                        case 2 -> shown != col[r][c];
                        default -> Integer.bitCount(shown) > 2;
                    };
                    sum += counts ? 1 : 0;
                }
            }
            return sum;
        }

        int count(int what) {
            return switch (what) {
                case 0, 1, 2, 5 -> countCells(what);
                case 3 -> reach();
                case 4 -> plateCells();
                case 6 -> pile.size();
                case 7 -> w;
                case 8 -> rows;
                case 9 -> columns;
                case 10 -> creep;
                default -> NONE;
            };
        }

        int cell(int row, int column, int what) {
            if (!in(row, column)) {
                return NONE;
            }
            int[] right = new int[4];
            int shown = what > 3 && what < 7 ? shows(plates(), row, column, down, across, creep) : 0;
            return switch (what) {
                case 0 -> colour(row, column);
                case 1 -> fine(row, column) ? 1 : 0;
                case 2 -> shapeAt(row, column);
                case 3 -> shows(plates(), row, column, right, right, 0);
                case 4 -> shown;
                case 5 -> colour(row, column) != 0 && shown == 0 ? 1 : 0;
                case 6 -> shown != colour(row, column) ? 1 : 0;
                default -> NONE;
            };
        }

        int tell(int shape, int what) {
            if (!lies(shape)) {
                return NONE;
            }
            Form f = forms.get(shape);
            return switch (what) {
                case 0 -> f.kind();
                case 1 -> f.row();
                case 2 -> f.column();
                case 3 -> f.height();
                case 4 -> f.width();
                case 5 -> f.colour();
                case 6 -> f.fine() ? 1 : 0;
                case 7 -> pile.indexOf(shape);
                case 8 -> seen(shape);
                default -> NONE;
            };
        }

        int seen(int shape) {
            int sum = 0;
            for (int r = 0; r < rows; r++) {
                for (int c = 0; c < columns; c++) {
                    sum += shapeAt(r, c) == shape ? 1 : 0;
                }
            }
            return sum;
        }

        int plate(int ink, int row) {
            if (ink < 0 || ink > 3 || row < 0 || row >= rows) {
                return NONE;
            }
            boolean[] cells = plates()[ink][row];
            int bits = 0;
            for (int c = 0; c < columns; c++) {
                bits |= cells[c] ? 1 << c : 0;
            }
            return bits;
        }
    }

    private static boolean between(int value, int least, int most) {
        return value >= least && value <= most;
    }

    /** Mostly a number within the bounds, now and then one just outside or far away. */
    private static int draw(Random random, int least, int most) {
        int sort = random.nextInt(40);
        if (sort == 0) {
            return least - 1;
        }
        if (sort == 1) {
            return most + 1;
        }
        if (sort == 2 && random.nextInt(4) == 0) {
            return random.nextInt();
        }
        return least + random.nextInt(most - least + 1);
    }

    private static int number(boolean answer) {
        return answer ? 1 : 0;
    }

    private static void due(String call, int got, int want) {
        calls++;
        if (got != want) {
            wrong++;
            if (wrong <= 20) {
                System.out.println(call + " answered " + got + ", due is " + want);
            }
        }
    }

    private static void tellSheet(InkOverInk x, Twin t, Random random, String at) {
        switch (random.nextInt(9)) {
            case 0 -> {
                int rows = draw(random, 1, 16);
                int columns = draw(random, 1, 16);
                boolean fits = between(rows, 1, 16) && between(columns, 1, 16);
                if (fits) {
                    t.rows = rows;
                    t.columns = columns;
                }
                due(at + "page", number(x.page(rows, columns)), number(fits));
            }
            case 1 -> {
                int ink = draw(random, 0, 3);
                int weight = draw(random, 0, 20);
                boolean fits = between(ink, 0, 3) && between(weight, 0, 20);
                if (fits) {
                    t.weights[ink] = weight;
                }
                due(at + "weight", number(x.weight(ink, weight)), number(fits));
            }
            case 2 -> {
                int w = draw(random, 0, 6);
                if (between(w, 0, 6)) {
                    t.w = w;
                }
                due(at + "trap " + w, x.trap(w), between(w, 0, 6) ? t.plateCells() - t.colourCells() : NONE);
            }
            case 3, 4 -> {
                int ink = draw(random, 0, 3);
                int rows = draw(random, -6, 6) / 2;
                int columns = draw(random, -6, 6);
                boolean fits = between(ink, 0, 3) && between(rows, -6, 6) && between(columns, -6, 6);
                if (fits) {
                    t.down[ink] = rows;
                    t.across[ink] = columns;
                }
                due(at + "off", number(x.off(ink, rows, columns)), number(fits));
            }
            case 5 -> {
                int creep = draw(random, -8, 8);
                if (between(creep, -8, 8)) {
                    t.creep = creep;
                }
                due(at + "creep", number(x.creep(creep)), number(between(creep, -8, 8)));
            }
            case 6 -> {
                x.right();
                t.creep = 0;
                t.down = new int[4];
                t.across = new int[4];
            }
            case 7 -> {
                int k = draw(random, 0, 3);
                if (between(k, 0, 3)) {
                    t.images[k] = new Twin();
                    t.images[k].copy(t);
                }
                due(at + "image", number(x.image(k)), number(between(k, 0, 3)));
            }
            default -> {
                int k = draw(random, 0, 3);
                boolean is = between(k, 0, 3) && t.images[k] != null;
                if (is) {
                    t.copy(t.images[k]);
                }
                due(at + "again", number(x.again(k)), number(is));
            }
        }
    }

    private static void addShape(InkOverInk x, Twin t, Random random, String at) {
        boolean small = random.nextInt(3) > 0;
        int kind = draw(random, 0, 3);
        int row = small ? draw(random, -4, 12) : draw(random, -16, 31);
        int column = small ? draw(random, -4, 12) : draw(random, -16, 31);
        int height = draw(random, 1, 32);
        int width = draw(random, 1, 32);
        int colour = draw(random, 0, 15);
        boolean fine = random.nextInt(4) == 0;
        boolean fits = between(kind, 0, 3) && between(row, -16, 31) && between(column, -16, 31)
                && between(height, 1, 32) && between(width, 1, 32) && between(colour, 0, 15) && t.forms.size() < 30;
        int want = NONE;
        if (fits) {
            want = t.forms.size();
            t.forms.add(new Form(kind, row, column, height, width, colour, fine));
            t.pile.add(want);
        }
        due(at + "shape", x.shape(kind, row, column, height, width, colour, fine), want);
    }

    private static void changeShape(InkOverInk x, Twin t, Random random, String at) {
        int shape = draw(random, 0, Math.max(1, t.forms.size()));
        boolean is = t.lies(shape);
        int place = t.pile.indexOf(shape);
        switch (random.nextInt(5)) {
            case 0 -> {
                if (is) {
                    t.pile.remove(place);
                }
                due(at + "take " + shape, number(x.take(shape)), number(is));
            }
            case 1 -> {
                int row = draw(random, -16, 31) / 2;
                int column = draw(random, -16, 31) / 2;
                boolean fits = is && between(row, -16, 31) && between(column, -16, 31);
                if (fits) {
                    Form f = t.forms.get(shape);
                    t.forms.set(shape, new Form(f.kind, row, column, f.height, f.width, f.colour, f.fine));
                }
                due(at + "move " + shape, number(x.move(shape, row, column)), number(fits));
            }
            case 2, 3 -> {
                boolean up = random.nextBoolean();
                int other = up ? place + 1 : place - 1;
                boolean fits = is && between(other, 0, t.pile.size() - 1);
                if (fits) {
                    t.pile.set(place, t.pile.get(other));
                    t.pile.set(other, shape);
                }
                due(at + "lift " + shape + " " + up, number(x.lift(shape, up)), number(fits));
            }
            default -> {
                int colour = draw(random, 0, 15);
                boolean fine = random.nextInt(4) == 0;
                boolean fits = is && between(colour, 0, 15);
                if (fits) {
                    Form f = t.forms.get(shape);
                    t.forms.set(shape, new Form(f.kind, f.row, f.column, f.height, f.width, colour, fine));
                }
                due(at + "paint " + shape, number(x.paint(shape, colour, fine)), number(fits));
            }
        }
    }

    private static void ask(InkOverInk x, Twin t, Random random, String at) {
        int row = draw(random, 0, t.rows - 1);
        int column = draw(random, 0, t.columns - 1);
        switch (random.nextInt(8)) {
            case 0 -> {
                int shape = draw(random, 0, Math.max(1, t.forms.size()));
                int what = draw(random, 0, 8);
                due(at + "tell " + shape + " " + what, x.tell(shape, what), t.tell(shape, what));
            }
            case 1 -> {
                int what = draw(random, 0, 6);
                due(at + "cell " + row + " " + column + " " + what, x.cell(row, column, what), t.cell(row, column, what));
            }
            case 2 -> {
                int n = random.nextBoolean() ? draw(random, 0, 15) : random.nextInt(4);
                boolean want = between(n, 0, 15) && t.inner(row, column, n, t.colours(), t.fines());
                due(at + "inner " + row + " " + column + " " + n, number(x.inner(row, column, n)), number(want));
            }
            case 3 -> {
                int a = draw(random, 0, 15);
                int b = draw(random, 0, 15);
                boolean want = between(a, 0, 15) && between(b, 0, 15) && t.lighter(a, b);
                due(at + "lighter " + a + " " + b, number(x.lighter(a, b)), number(want));
            }
            case 4 -> {
                int what = draw(random, 0, 10);
                due(at + "count " + what, x.count(what), t.count(what));
            }
            case 5 -> {
                int ink = draw(random, 0, 3);
                int rows = draw(random, -6, 6);
                int columns = draw(random, -6, 6);
                boolean fits = between(ink, 0, 3) && between(rows, -6, 6) && between(columns, -6, 6);
                due(at + "bare " + ink + " " + rows + " " + columns, x.bare(ink, rows, columns),
                        fits ? t.bare(ink, rows, columns) : NONE);
            }
            case 6 -> due(at + "safe", x.safe(), t.safe());
            default -> {
                int ink = draw(random, 0, 3);
                due(at + "plate " + ink + " " + row, x.plate(ink, row), t.plate(ink, row));
            }
        }
    }

    private static void run(int seed) {
        Random random = new Random(seed);
        InkOverInk x = new InkOverInk();
        Twin t = new Twin();
        int shapesEarly = random.nextInt(12);
        for (int call = 0; call < CALLS; call++) {
            String at = "run " + seed + ", call " + call + ": ";
            int sort = random.nextInt(10);
            if (call < shapesEarly || sort == 0) {
                addShape(x, t, random, at);
            } else if (sort < 3) {
                tellSheet(x, t, random, at);
            } else if (sort < 5) {
                changeShape(x, t, random, at);
            } else {
                ask(x, t, random, at);
            }
        }
    }

    public static void main(String[] args) {
        for (int seed = 0; seed < RUNS; seed++) {
            run(seed);
        }
        System.out.println("TwinTest: " + (calls - wrong) + " answers as due, " + wrong + " not");
        if (wrong != 0) {
            System.exit(1);
        }
    }
}
