import java.util.Arrays;

/**
 * A packer of circles: a net of faces tells which circles touch, radii are found by the angles
 * around the circles, and the circles are laid out in the plane by turning.
 *
 * <p>All rows are made once, in constructors, and used again by every call: no call makes an
 * object, but for the exception that it may throw.
 */
public final class CirclePacker {
    public static final int NONE = -1;

    private static final int MOST_BYTES = 800;
    private static final int FEED_BYTES = 20;
    private static final int MOST_CIRCLES = 12;
    private static final int MOST_FACES = 20;
    private static final int CORNERS = 3;
    private static final int MOST_RADIUS = 1000000;
    private static final int MOST_FIRST_RADIUS = 100000;
    private static final int USUAL_RADIUS = 1000;
    private static final int MOST_DEGREES = 1800;
    private static final int FULL_DEGREES = 360;
    private static final int MOST_SWEEPS = 20;
    private static final int MOST_SLACK = 1000;
    private static final int MOST_CERTAIN_BOUND = 2000000000;
    private static final int MOST_OVERLAP_BOUND = 1000000;
    private static final int MOST_SHIFT = 1000000;
    private static final int MOST_SHIFTED = 1000000000;
    private static final int MOST_LAID = 700000000;
    private static final int MOST_UNDOS = 5;
    private static final int MOST_COMMANDS = 30;
    private static final int MOST_COMMANDS_DONE = 20;
    private static final int MOST_SCRIPT_SWEEPS = 6;
    private static final int MOST_REPEATS = 10;
    private static final int MOST_OPEN_REPEATS = 2;
    private static final int LONGEST_WORD = 8;
    private static final int LONGEST_NUMBER = 6;
    private static final int GREATEST_NUMBER = 999999;

    // The unit S of the document, in which angles and cosines are counted.
    private static final long UNIT = 1000000000L;
    private static final long HALF_TURN = 3141592653L;
    private static final long FULL_TURN = 6283185307L;

    private static final int INNER = 0;
    private static final int OUTER = 1;
    private static final int ALONE = 2;

    private static final int MISPLACED = 1;
    private static final int OUT_OF_RANGE = 2;
    private static final int TAKEN = 3;
    private static final int UNKNOWN = 4;
    private static final int TOO_MANY = 5;
    private static final int NOT_IN_ONE_ROW = 6;

    private final Text text = new Text();
    private final Tokens tokens = new Tokens(text);
    private final Net net = new Net();
    private final NetReader netReader = new NetReader(tokens);
    private final Script script = new Script(tokens);
    private final Packing packing = new Packing();
    private final Solver solver = new Solver(net, packing);
    private final Layout layout = new Layout(net, packing);
    private final History history = new History();
    private final Net savedNet = new Net();
    private final Packing savedPacking = new Packing();
    private final Page page = new Page();
    // The lengths of the ways from one circle to all others, as the latest call measured them.
    private final long[] ways = new long[MOST_CIRCLES];
    private boolean isSaved;

    public CirclePacker() {
    }

    // ---- texts

    public int feed(int a, int b, int c, int d, int e) throws IllegalStateException {
        if (text.length + FEED_BYTES > MOST_BYTES) {
            throw new IllegalStateException("the buffer would be too long");
        }
        text.append(a);
        text.append(b);
        text.append(c);
        text.append(d);
        text.append(e);
        return text.length;
    }

    public int truncate(int n) throws IllegalArgumentException {
        if (n < 0 || n > text.length) {
            throw new IllegalArgumentException("no such length");
        }
        text.length = n;
        return n;
    }

    public int readNet() throws IllegalArgumentException {
        boolean isRead = netReader.read();
        text.length = 0;
        if (!isRead) {
            throw new IllegalArgumentException("the net has an error");
        }
        net.copyFrom(netReader.draft);
        packing.begin(net);
        history.forget();
        return netReader.statements;
    }

    public int runScript() throws IllegalArgumentException {
        boolean isRead = script.read(net);
        text.length = 0;
        if (!isRead) {
            throw new IllegalArgumentException("the script has an error");
        }
        history.note(packing);
        int done = 0;
        int next = script.commandFrom(0);
        while (next != NONE && done < MOST_COMMANDS_DONE && runCommand(next)) {
            done++;
            next = script.commandFrom(next + 1);
        }
        if (done > 0) {
            history.keep();
        }
        return done;
    }

    public int errorCode() {
        return tokens.errorCode;
    }

    public int errorPosition() {
        return tokens.errorPosition;
    }

    // ---- the net

    public int count(int what) throws IllegalArgumentException {
        switch (what) {
            case 0:
                return net.circles;
            case 1:
                return net.faces;
            case 2:
                return countPairs();
            case 3:
                return countKind(INNER);
            case 4:
                return countKind(OUTER);
            case 5:
                return countFree();
            default:
                throw new IllegalArgumentException("nothing to count");
        }
    }

    public int kind(int circle) throws IndexOutOfBoundsException {
        checkCircle(circle);
        return net.kindOf(circle);
    }

    public int degrees(int circle) throws IndexOutOfBoundsException {
        checkCircle(circle);
        return net.degreesOf(circle);
    }

    public int neighbors(int circle) throws IndexOutOfBoundsException {
        checkCircle(circle);
        return net.rowLength(circle);
    }

    public int neighbor(int circle, int i) throws IndexOutOfBoundsException {
        checkCircle(circle);
        return net.inRow(circle, i);
    }

    public int corner(int face, int corner) throws IndexOutOfBoundsException, IllegalArgumentException {
        checkFace(face);
        checkCorner(corner);
        return net.cornerOf(face, corner);
    }

    public int faceAt(int circle, int other) throws IndexOutOfBoundsException {
        checkCircle(circle);
        checkCircle(other);
        return net.faceOfSide(circle, other);
    }

    public int steps(int circle, int other) throws IndexOutOfBoundsException {
        checkCircle(circle);
        checkCircle(other);
        measureWays(circle, false);
        return (int) ways[other];
    }

    public int parts() {
        int number = 0;
        for (int c = 0; c < net.circles; c++) {
            if (isLowestOfPart(c)) {
                number++;
            }
        }
        return number;
    }

    public int border(int circle, int i) throws IndexOutOfBoundsException {
        checkCircle(circle);
        if (i < 0 || i >= borderLength(circle)) {
            return NONE;
        }
        int there = circle;
        for (int step = 0; step < i; step++) {
            there = net.lastInRow(there);
        }
        return there;
    }

    public long perimeter(int circle) throws IndexOutOfBoundsException {
        checkCircle(circle);
        long length = 0;
        int there = circle;
        int bound = borderLength(circle);
        for (int step = 0; step < bound; step++) {
            int next = net.lastInRow(there);
            length += packing.reach(there, next);
            there = next;
        }
        return length;
    }

    public long distance(int circle, int other) throws IndexOutOfBoundsException {
        checkCircle(circle);
        checkCircle(other);
        measureWays(circle, true);
        return ways[other];
    }

    // ---- angles

    public int radius(int circle) throws IndexOutOfBoundsException {
        checkCircle(circle);
        return packing.radiusOf(circle);
    }

    public long angle(int face, int corner) throws IndexOutOfBoundsException, IllegalArgumentException {
        checkFace(face);
        checkCorner(corner);
        int own = packing.radiusOf(net.cornerOf(face, corner));
        int next = packing.radiusOf(net.cornerOf(face, corner + 1));
        int behind = packing.radiusOf(net.cornerOf(face, corner + 2));
        return Solver.angleBetween(own, next, behind);
    }

    public long sum(int circle) throws IndexOutOfBoundsException {
        checkCircle(circle);
        return solver.sumOf(circle);
    }

    public long defect(int circle) throws IndexOutOfBoundsException, IllegalStateException {
        checkCircle(circle);
        if (!net.isFree(circle)) {
            throw new IllegalStateException("a fixed circle has no defect");
        }
        return solver.defectOf(circle);
    }

    public int worst() {
        int worst = NONE;
        long greatest = -1;
        for (int c = 0; c < net.circles; c++) {
            if (net.isFree(c) && Math.abs(solver.defectOf(c)) > greatest) {
                greatest = Math.abs(solver.defectOf(c));
                worst = c;
            }
        }
        return worst;
    }

    public long unrest() {
        return solver.allDefects();
    }

    public long closure() {
        long all = 0;
        for (int c = 0; c < net.circles; c++) {
            all += solver.sumOf(c);
        }
        return all - HALF_TURN * net.faces;
    }

    // ---- radii

    public int setRadius(int circle, int radius) throws IndexOutOfBoundsException, IllegalArgumentException {
        checkCircle(circle);
        if (radius < 1 || radius > MOST_RADIUS) {
            throw new IllegalArgumentException("no such radius");
        }
        history.note(packing);
        history.keep();
        int previous = packing.radiusOf(circle);
        packing.changeRadius(circle, radius);
        return previous;
    }

    public int solve(int circle) throws IndexOutOfBoundsException, IllegalStateException {
        checkCircle(circle);
        if (!solver.isSolvable(circle)) {
            throw new IllegalStateException("the circle is fixed or has no face");
        }
        history.note(packing);
        history.keep();
        packing.changeRadius(circle, solver.solvedRadius(circle));
        return packing.radiusOf(circle);
    }

    public int solved(int circle) throws IndexOutOfBoundsException {
        checkCircle(circle);
        return solver.solvedRadius(circle);
    }

    public int sweep() {
        history.note(packing);
        history.keep();
        return solver.sweepOnce();
    }

    public int settle(int most) throws IllegalArgumentException {
        if (most < 1 || most > MOST_SWEEPS) {
            throw new IllegalArgumentException("no such number of sweeps");
        }
        history.note(packing);
        history.keep();
        for (int sweeps = 1; sweeps < most; sweeps++) {
            if (solver.sweepOnce() == 0) {
                return sweeps;
            }
        }
        solver.sweepOnce();
        return most;
    }

    public boolean isSettled() {
        for (int c = 0; c < net.circles; c++) {
            if (solver.isSolvable(c) && solver.solvedRadius(c) != packing.radiusOf(c)) {
                return false;
            }
        }
        return true;
    }

    // ---- bounds

    public long lowSum(int circle, int slack) throws IndexOutOfBoundsException, IllegalArgumentException {
        checkCircle(circle);
        checkSlack(slack);
        return solver.lowestSum(circle, slack);
    }

    public long highSum(int circle, int slack) throws IndexOutOfBoundsException, IllegalArgumentException {
        checkCircle(circle);
        checkSlack(slack);
        return solver.highestSum(circle, slack);
    }

    public boolean isCertain(int circle, int slack, int bound)
            throws IndexOutOfBoundsException, IllegalArgumentException {
        checkCircle(circle);
        checkSlack(slack);
        checkCertainBound(bound);
        return net.isFree(circle) && solver.isWithin(circle, slack, bound);
    }

    public int greatestSlack(int bound) throws IllegalArgumentException {
        checkCertainBound(bound);
        if (countFree() == 0) {
            return NONE;
        }
        // A greater slack never makes a circle certain, so halving finds the greatest one.
        int enough = NONE;
        int tooGreat = MOST_SLACK + 1;
        for (int i = 0; i < 16 && tooGreat - enough > 1; i++) {
            int tried = (enough + tooGreat) / 2;
            if (solver.areAllWithin(tried, bound)) {
                enough = tried;
            } else {
                tooGreat = tried;
            }
        }
        return enough;
    }

    // ---- layout

    public int lay(int face) throws IndexOutOfBoundsException {
        checkFace(face);
        history.note(packing);
        history.keep();
        layout.layFrom(face);
        return packing.puts;
    }

    public boolean isPut(int circle) throws IndexOutOfBoundsException {
        checkCircle(circle);
        return packing.hasPlace(circle);
    }

    public int x(int circle) throws IndexOutOfBoundsException, IllegalStateException {
        checkCircle(circle);
        checkPlace(circle);
        return packing.xOf(circle);
    }

    public int y(int circle) throws IndexOutOfBoundsException, IllegalStateException {
        checkCircle(circle);
        checkPlace(circle);
        return packing.yOf(circle);
    }

    public int putAt(int i) {
        return packing.putCircle(i);
    }

    public int gap(int circle, int other) throws IndexOutOfBoundsException, IllegalStateException {
        checkCircle(circle);
        checkCircle(other);
        checkPlace(circle);
        checkPlace(other);
        return layout.gapOf(circle, other);
    }

    public int audit() {
        int pair = layout.loosestPair();
        if (pair == NONE) {
            return NONE;
        }
        return Math.abs(layout.gapOf(pair / MOST_CIRCLES, pair % MOST_CIRCLES));
    }

    public int loosest() {
        return layout.loosestPair();
    }

    public int overlaps(int bound) throws IllegalArgumentException {
        if (bound < 0 || bound > MOST_OVERLAP_BOUND) {
            throw new IllegalArgumentException("no such bound");
        }
        return layout.countOverlaps(bound);
    }

    public long area(int face) throws IndexOutOfBoundsException, IllegalStateException {
        checkFace(face);
        if (!layout.isFacePut(face)) {
            throw new IllegalStateException("a circle of the face has no place");
        }
        return layout.areaOf(face);
    }

    public int flipped() {
        int number = 0;
        for (int f = 0; f < net.faces; f++) {
            if (layout.isFacePut(f) && layout.areaOf(f) <= 0) {
                number++;
            }
        }
        return number;
    }

    public int shift(int dx, int dy) throws IllegalArgumentException, IllegalStateException {
        if (dx < -MOST_SHIFT || dx > MOST_SHIFT || dy < -MOST_SHIFT || dy > MOST_SHIFT) {
            throw new IllegalArgumentException("too great a shift");
        }
        if (!packing.canShift(dx, dy)) {
            throw new IllegalStateException("a place would be too far off");
        }
        history.note(packing);
        history.keep();
        packing.shiftPlaces(dx, dy);
        return packing.puts;
    }

    public int turn() {
        history.note(packing);
        history.keep();
        packing.turnPlaces();
        return packing.puts;
    }

    public int box(int what) throws IllegalArgumentException, IllegalStateException {
        if (what < 0 || what > 3) {
            throw new IllegalArgumentException("no such side of the box");
        }
        if (packing.puts == 0) {
            throw new IllegalStateException("no circle has a place");
        }
        return layout.boxSide(what % 2 == 0, what >= 2);
    }

    public int at(int x, int y) {
        for (int c = 0; c < net.circles; c++) {
            if (packing.hasPlace(c) && layout.covers(c, x, y)) {
                return c;
            }
        }
        return NONE;
    }

    public int touch(int circle, int other, int what)
            throws IndexOutOfBoundsException, IllegalArgumentException, IllegalStateException {
        checkCircle(circle);
        checkCircle(other);
        if (what < 0 || what > 1 || !net.areNeighbors(circle, other)) {
            throw new IllegalArgumentException("no such coordinate, or no neighbors");
        }
        checkPlace(circle);
        checkPlace(other);
        return layout.touchOf(circle, other, what == 0);
    }

    // ---- reports, undo, a saved state

    public int report() {
        page.length = 0;
        for (int c = 0; c < net.circles; c++) {
            page.writeWord(net.nameOf(c));
            page.writeByte(' ');
            page.writeNumber(packing.radiusOf(c));
            if (packing.hasPlace(c)) {
                page.writeByte(' ');
                page.writeNumber(packing.xOf(c));
                page.writeByte(',');
                page.writeNumber(packing.yOf(c));
            }
            page.writeByte('\n');
        }
        return page.length;
    }

    public int reportByte(int i) throws IndexOutOfBoundsException {
        if (i < 0 || i >= page.length) {
            throw new IndexOutOfBoundsException("no such byte");
        }
        return page.byteAt(i);
    }

    public int undo() {
        if (history.size == 0) {
            return NONE;
        }
        history.bringBack(packing);
        return history.size;
    }

    public int save() {
        savedNet.copyFrom(net);
        savedPacking.copyFrom(packing);
        isSaved = true;
        return net.circles;
    }

    public int restore() throws IllegalStateException {
        if (!isSaved) {
            throw new IllegalStateException("nothing was saved");
        }
        net.copyFrom(savedNet);
        packing.copyFrom(savedPacking);
        history.forget();
        return net.circles;
    }

    // ---- what the calls have in common

    private void checkCircle(int circle) {
        if (circle < 0 || circle >= net.circles) {
            throw new IndexOutOfBoundsException("no such circle");
        }
    }

    private void checkFace(int face) {
        if (face < 0 || face >= net.faces) {
            throw new IndexOutOfBoundsException("no such face");
        }
    }

    private static void checkCorner(int corner) {
        if (corner < 0 || corner >= CORNERS) {
            throw new IllegalArgumentException("no such corner");
        }
    }

    private static void checkSlack(int slack) {
        if (slack < 0 || slack > MOST_SLACK) {
            throw new IllegalArgumentException("no such slack");
        }
    }

    private static void checkCertainBound(int bound) {
        if (bound < 0 || bound > MOST_CERTAIN_BOUND) {
            throw new IllegalArgumentException("no such bound");
        }
    }

    private void checkPlace(int circle) {
        if (!packing.hasPlace(circle)) {
            throw new IllegalStateException("the circle has no place");
        }
    }

    private int countPairs() {
        int ends = 0;
        for (int c = 0; c < net.circles; c++) {
            ends += net.rowLength(c);
        }
        return ends / 2;
    }

    private int countKind(int kind) {
        int number = 0;
        for (int c = 0; c < net.circles; c++) {
            if (net.kindOf(c) == kind) {
                number++;
            }
        }
        return number;
    }

    private int countFree() {
        int number = 0;
        for (int c = 0; c < net.circles; c++) {
            if (net.isFree(c)) {
                number++;
            }
        }
        return number;
    }

    private int borderLength(int circle) {
        if (net.kindOf(circle) != OUTER) {
            return 0;
        }
        int length = 0;
        int there = circle;
        for (int step = 0; step < MOST_CIRCLES; step++) {
            length++;
            there = net.lastInRow(there);
            if (there == circle) {
                return length;
            }
        }
        return length;
    }

    // A step counts 1, or the sum of both radii; NONE stands where no way leads.
    private void measureWays(int from, boolean byLength) {
        for (int c = 0; c < MOST_CIRCLES; c++) {
            ways[c] = c == from ? 0 : NONE;
        }
        boolean isShorter = true;
        for (int round = 0; round < MOST_CIRCLES && isShorter; round++) {
            isShorter = false;
            for (int c = 0; c < net.circles; c++) {
                if (ways[c] != NONE && shortenFrom(c, byLength)) {
                    isShorter = true;
                }
            }
        }
    }

    private boolean shortenFrom(int circle, boolean byLength) {
        boolean isShorter = false;
        for (int i = 0; i < net.rowLength(circle); i++) {
            int next = net.inRow(circle, i);
            long way = ways[circle] + (byLength ? packing.reach(circle, next) : 1);
            if (next >= 0 && next < MOST_CIRCLES && (ways[next] == NONE || way < ways[next])) {
                ways[next] = way;
                isShorter = true;
            }
        }
        return isShorter;
    }

    private boolean isLowestOfPart(int circle) {
        measureWays(circle, false);
        for (int c = 0; c < circle; c++) {
            if (ways[c] != NONE) {
                return false;
            }
        }
        return true;
    }

    // Answers whether the command could be done.
    private boolean runCommand(int i) {
        int circle = script.circleOf(i);
        int number = script.numberOf(i);
        switch (script.verbOf(i)) {
            case SOLVE:
                return solveIfPossible(circle);
            case SWEEP:
                solver.sweepTimes(number);
                return true;
            case SET:
                packing.changeRadius(circle, number);
                return true;
            case LAY:
                return layIfPossible(number);
            case TURN:
                packing.turnPlaces();
                return packing.puts > 0;
            case CALM:
                return solver.calmDown(1000L * number);
            default:
                return false;
        }
    }

    private boolean solveIfPossible(int circle) {
        if (!solver.isSolvable(circle)) {
            return false;
        }
        packing.changeRadius(circle, solver.solvedRadius(circle));
        return true;
    }

    private boolean layIfPossible(int face) {
        if (face < 0 || face >= net.faces) {
            return false;
        }
        layout.layFrom(face);
        return true;
    }

    // Divides rounding towards 0, which is down where nothing is negative.
    private static long quotient(long dividend, long divisor) {
        return divisor == 0 ? 0 : dividend / divisor;
    }

    // The greatest whole number whose square is not greater than n, or 0 if there is none: Newton's
    // steps go down to it from any greater number, and 2 to the 32nd is greater for each n.
    private static long root(long n) {
        if (n <= 0) {
            return 0;
        }
        long root = 1L << 32;
        for (int i = 0; i < 64 && root > 0; i++) {
            long next = (root + n / root) / 2;
            if (next >= root) {
                return root;
            }
            root = next;
        }
        return root;
    }

    /** The words that the grammars know, with the range of the number behind them; NAME is every other word. */
    private enum Word {
        NOT_A_WORD("", 0, NONE),
        NAME("", 0, NONE),
        CIRCLE("circle", 0, NONE),
        RADIUS("radius", 1, MOST_FIRST_RADIUS),
        ANGLE("angle", 1, MOST_DEGREES),
        FACE("face", 0, NONE),
        SCALE("scale", 1, MOST_FIRST_RADIUS),
        SOLVE("solve", 0, NONE),
        SWEEP("sweep", 1, MOST_SCRIPT_SWEEPS),
        SET("set", 1, MOST_RADIUS),
        LAY("lay", 0, GREATEST_NUMBER),
        TURN("turn", 0, NONE),
        CALM("calm", 0, GREATEST_NUMBER),
        REPEAT("repeat", 1, MOST_REPEATS),
        END_OF_REPEAT("", 0, NONE);

        private static final Word[] ALL = values();

        // The letters, a byte each: a word of 8 letters fits.
        private final long letters;
        private final int least;
        private final int most;

        Word(String text, int least, int most) {
            long packed = 0;
            for (int i = 0; i < text.length(); i++) {
                packed = packed << 8 | text.charAt(i);
            }
            letters = packed;
            this.least = least;
            this.most = most;
        }

        boolean takesNumber() {
            return least <= most;
        }

        // A word of a text has a letter, so the constants without letters are never found.
        static Word withLetters(long letters) {
            for (Word word : ALL) {
                if (word.letters == letters) {
                    return word;
                }
            }
            return NAME;
        }
    }

    /** The bytes that were fed and that nothing has read yet. */
    private static final class Text {
        static final int NO_BYTE = -1;

        final byte[] bytes = new byte[MOST_BYTES];
        int length;

        void append(int fourBytes) {
            for (int shift = 24; shift >= 0; shift -= 8) {
                if (length >= 0 && length < bytes.length) {
                    bytes[length] = (byte) (fourBytes >> shift);
                    length++;
                }
            }
        }

        int byteAt(int i) {
            return i >= 0 && i < length && i < bytes.length ? bytes[i] & 255 : NO_BYTE;
        }
    }

    /** The tokens of the text, one at a time, and the first error that was found at one. */
    private static final class Tokens {
        // A token that is a single sign has its byte as its kind.
        static final int END = -1;
        static final int INVALID = 0;
        static final int WORD = 1;
        static final int NUMBER = 2;

        final Text text;
        int kind;
        int start;
        int behind;
        Word word = Word.NOT_A_WORD;
        long letters;
        int number;
        int errorCode;
        int errorPosition = NONE;

        Tokens(Text text) {
            this.text = text;
        }

        void begin() {
            errorCode = 0;
            errorPosition = NONE;
            behind = 0;
            advance();
        }

        void advance() {
            start = behindBlanks(behind);
            behind = start + 1;
            word = Word.NOT_A_WORD;
            int first = text.byteAt(start);
            if (first == Text.NO_BYTE) {
                kind = END;
            } else if (isLetter(first)) {
                takeWord();
            } else if (isDigit(first)) {
                takeNumber();
            } else {
                kind = first == ';' || first == '(' || first == ')' ? first : INVALID;
            }
        }

        boolean fail(int code) {
            errorCode = code;
            errorPosition = start;
            return false;
        }

        boolean passSign(int sign) {
            if (kind != sign) {
                return fail(MISPLACED);
            }
            advance();
            return true;
        }

        // Passes the number that stands behind this word.
        boolean passNumber(Word before) {
            if (kind != NUMBER) {
                return fail(MISPLACED);
            }
            if (number < before.least || number > before.most) {
                return fail(OUT_OF_RANGE);
            }
            advance();
            return true;
        }

        boolean isNewName(Net net) {
            if (word != Word.NAME) {
                return fail(MISPLACED);
            }
            return net.circleNamed(letters) == NONE || fail(TAKEN);
        }

        boolean isCircle(Net net) {
            if (word != Word.NAME) {
                return fail(MISPLACED);
            }
            return net.circleNamed(letters) != NONE || fail(UNKNOWN);
        }

        private int behindBlanks(int from) {
            for (int i = from; i < text.length; i++) {
                int here = text.byteAt(i);
                if (here != ' ' && here != '\n') {
                    return i;
                }
            }
            return text.length;
        }

        private void takeWord() {
            letters = 0;
            int i = start;
            for (; i < text.length && isLetter(text.byteAt(i)); i++) {
                letters = letters << 8 | text.byteAt(i);
            }
            behind = i;
            if (behind - start > LONGEST_WORD) {
                kind = INVALID;
            } else {
                kind = WORD;
                word = Word.withLetters(letters);
            }
        }

        private void takeNumber() {
            number = 0;
            int i = start;
            for (; i < text.length && isDigit(text.byteAt(i)); i++) {
                number = 10 * number + text.byteAt(i) - '0';
            }
            behind = i;
            kind = behind - start > LONGEST_NUMBER ? INVALID : NUMBER;
        }

        private static boolean isLetter(int b) {
            return b >= 'a' && b <= 'z';
        }

        private static boolean isDigit(int b) {
            return b >= '0' && b <= '9';
        }
    }

    /** Circles and faces, and the rows of neighbors that follow from them. */
    private static final class Net {
        int circles;
        int faces;
        int scale = USUAL_RADIUS;
        final long[] names = new long[MOST_CIRCLES];
        // 0 degrees for a fixed circle, and the radius 0 for a free one.
        final int[] degrees = new int[MOST_CIRCLES];
        final int[] fixedRadii = new int[MOST_CIRCLES];
        final int[] corners = new int[MOST_FACES * CORNERS];
        // The face that has the side from a to b, at a * MOST_CIRCLES + b; NONE without one.
        final int[] sides = new int[MOST_CIRCLES * MOST_CIRCLES];
        final int[] rows = new int[MOST_CIRCLES * MOST_CIRCLES];
        final int[] rowLengths = new int[MOST_CIRCLES];
        final boolean[] isRing = new boolean[MOST_CIRCLES];

        Net() {
            clear();
        }

        void clear() {
            circles = 0;
            faces = 0;
            scale = USUAL_RADIUS;
            Arrays.fill(sides, NONE);
        }

        void copyFrom(Net other) {
            circles = other.circles;
            faces = other.faces;
            scale = other.scale;
            System.arraycopy(other.names, 0, names, 0, MOST_CIRCLES);
            System.arraycopy(other.degrees, 0, degrees, 0, MOST_CIRCLES);
            System.arraycopy(other.fixedRadii, 0, fixedRadii, 0, MOST_CIRCLES);
            System.arraycopy(other.corners, 0, corners, 0, MOST_FACES * CORNERS);
            System.arraycopy(other.sides, 0, sides, 0, MOST_CIRCLES * MOST_CIRCLES);
            System.arraycopy(other.rows, 0, rows, 0, MOST_CIRCLES * MOST_CIRCLES);
            System.arraycopy(other.rowLengths, 0, rowLengths, 0, MOST_CIRCLES);
            System.arraycopy(other.isRing, 0, isRing, 0, MOST_CIRCLES);
        }

        void addCircle(long name, int wantedDegrees, int fixedRadius) {
            if (circles >= 0 && circles < MOST_CIRCLES) {
                names[circles] = name;
                degrees[circles] = wantedDegrees;
                fixedRadii[circles] = fixedRadius;
                circles++;
            }
        }

        void addFace(int first, int second, int third) {
            if (faces >= 0 && faces < MOST_FACES) {
                corners[faces * CORNERS] = first;
                corners[faces * CORNERS + 1] = second;
                corners[faces * CORNERS + 2] = third;
                addSide(first, second);
                addSide(second, third);
                addSide(third, first);
                faces++;
            }
        }

        private void addSide(int from, int to) {
            if (isIndex(from) && isIndex(to)) {
                sides[from * MOST_CIRCLES + to] = faces;
            }
        }

        private static boolean isIndex(int circle) {
            return circle >= 0 && circle < MOST_CIRCLES;
        }

        int circleNamed(long name) {
            for (int c = 0; c < circles; c++) {
                if (names[c] == name) {
                    return c;
                }
            }
            return NONE;
        }

        long nameOf(int circle) {
            return isIndex(circle) ? names[circle] : 0;
        }

        int degreesOf(int circle) {
            return isIndex(circle) ? degrees[circle] : 0;
        }

        boolean isFree(int circle) {
            return isIndex(circle) && degrees[circle] > 0;
        }

        int firstRadius(int circle) {
            return isIndex(circle) && fixedRadii[circle] > 0 ? fixedRadii[circle] : scale;
        }

        // Corners are counted cyclically: corner 3 is corner 0 again.
        int cornerOf(int face, int corner) {
            if (face < 0 || face >= faces || face >= MOST_FACES || corner < 0) {
                return NONE;
            }
            return corners[face * CORNERS + corner % CORNERS];
        }

        int faceOfSide(int from, int to) {
            return isIndex(from) && isIndex(to) ? sides[from * MOST_CIRCLES + to] : NONE;
        }

        boolean areNeighbors(int circle, int other) {
            return faceOfSide(circle, other) != NONE || faceOfSide(other, circle) != NONE;
        }

        int rowLength(int circle) {
            return isIndex(circle) ? rowLengths[circle] : 0;
        }

        int inRow(int circle, int i) {
            if (!isIndex(circle) || i < 0 || i >= rowLengths[circle] || i >= MOST_CIRCLES) {
                return NONE;
            }
            return rows[circle * MOST_CIRCLES + i];
        }

        int lastInRow(int circle) {
            return inRow(circle, rowLength(circle) - 1);
        }

        int kindOf(int circle) {
            if (!isIndex(circle) || rowLengths[circle] == 0) {
                return ALONE;
            }
            return isRing[circle] ? INNER : OUTER;
        }

        // Makes the rows; answers whether the neighbors of each circle are in one.
        boolean arrange() {
            for (int c = 0; c < circles; c++) {
                if (!arrangeRow(c)) {
                    return false;
                }
            }
            return true;
        }

        private boolean arrangeRow(int circle) {
            int first = firstNeighbor(circle);
            isRing[circle] = first != NONE && faceOfSide(first, circle) != NONE;
            int length = 0;
            int next = first;
            for (int i = 0; i < MOST_CIRCLES && next != NONE; i++) {
                rows[circle * MOST_CIRCLES + i] = next;
                length++;
                next = follower(circle, next);
                if (next == first) {
                    next = NONE;
                }
            }
            rowLengths[circle] = length;
            return length == countNeighbors(circle);
        }

        // The lowest neighbor that follows none, or the lowest one if each follows one.
        private int firstNeighbor(int circle) {
            int lowest = NONE;
            for (int c = circles - 1; c >= 0; c--) {
                if (areNeighbors(circle, c)) {
                    lowest = c;
                }
            }
            for (int c = 0; c < circles; c++) {
                if (areNeighbors(circle, c) && faceOfSide(c, circle) == NONE) {
                    return c;
                }
            }
            return lowest;
        }

        private int follower(int circle, int neighbor) {
            int face = faceOfSide(circle, neighbor);
            for (int corner = 0; corner < CORNERS; corner++) {
                int third = cornerOf(face, corner);
                if (third != circle && third != neighbor) {
                    return third;
                }
            }
            return NONE;
        }

        private int countNeighbors(int circle) {
            int number = 0;
            for (int c = 0; c < circles; c++) {
                if (areNeighbors(circle, c)) {
                    number++;
                }
            }
            return number;
        }
    }

    /** Reads a text as a net, into a draft, so that an error leaves the net as it is. */
    private static final class NetReader {
        final Tokens tokens;
        final Net draft = new Net();
        int statements;
        private boolean hasScale;

        NetReader(Tokens tokens) {
            this.tokens = tokens;
        }

        boolean read() {
            draft.clear();
            statements = 0;
            hasScale = false;
            tokens.begin();
            // Each statement takes a byte at least.
            for (int i = 0; i < MOST_BYTES && tokens.kind != Tokens.END; i++) {
                if (!readStatement() || !tokens.passSign(';')) {
                    return false;
                }
                statements++;
            }
            return draft.arrange() || tokens.fail(NOT_IN_ONE_ROW);
        }

        private boolean readStatement() {
            if (tokens.word == Word.CIRCLE) {
                return readCircle();
            }
            if (tokens.word == Word.FACE) {
                return readFace();
            }
            if (tokens.word == Word.SCALE) {
                return readScale();
            }
            return tokens.fail(MISPLACED);
        }

        private boolean readCircle() {
            if (draft.circles >= MOST_CIRCLES) {
                return tokens.fail(TOO_MANY);
            }
            tokens.advance();
            if (!tokens.isNewName(draft)) {
                return false;
            }
            long name = tokens.letters;
            tokens.advance();
            int degrees = FULL_DEGREES;
            int radius = 0;
            if (tokens.word == Word.RADIUS) {
                tokens.advance();
                degrees = 0;
                radius = tokens.number;
                if (!tokens.passNumber(Word.RADIUS)) {
                    return false;
                }
            } else if (tokens.word == Word.ANGLE) {
                tokens.advance();
                degrees = tokens.number;
                if (!tokens.passNumber(Word.ANGLE)) {
                    return false;
                }
            }
            draft.addCircle(name, degrees, radius);
            return true;
        }

        private boolean readFace() {
            if (draft.faces >= MOST_FACES) {
                return tokens.fail(TOO_MANY);
            }
            tokens.advance();
            if (!tokens.isCircle(draft)) {
                return false;
            }
            int first = draft.circleNamed(tokens.letters);
            tokens.advance();
            if (!tokens.isCircle(draft)) {
                return false;
            }
            int second = draft.circleNamed(tokens.letters);
            if (second == first || draft.faceOfSide(first, second) != NONE) {
                return tokens.fail(TAKEN);
            }
            tokens.advance();
            if (!tokens.isCircle(draft)) {
                return false;
            }
            int third = draft.circleNamed(tokens.letters);
            if (third == first || third == second || draft.faceOfSide(second, third) != NONE
                    || draft.faceOfSide(third, first) != NONE) {
                return tokens.fail(TAKEN);
            }
            tokens.advance();
            draft.addFace(first, second, third);
            return true;
        }

        private boolean readScale() {
            if (hasScale) {
                return tokens.fail(TAKEN);
            }
            hasScale = true;
            tokens.advance();
            draft.scale = tokens.number;
            return tokens.passNumber(Word.SCALE);
        }
    }

    /** The entries of a script in the order of the text: commands, and the ends of repeats. */
    private static final class Script {
        static final int MOST_ENTRIES = 2 * MOST_COMMANDS;
        // Each entry is met at most once in each round of the two repeats that it may stand in.
        static final int MOST_STEPS = MOST_ENTRIES * MOST_REPEATS * MOST_REPEATS;

        final Tokens tokens;
        final Word[] verbs = new Word[MOST_ENTRIES];
        final int[] circles = new int[MOST_ENTRIES];
        // For the end of a repeat, the entry at which the repeat begins.
        final int[] numbers = new int[MOST_ENTRIES];
        private final int[] roundsLeft = new int[MOST_ENTRIES];
        private final int[] openRepeats = new int[MOST_OPEN_REPEATS];
        private int entries;
        private int commands;
        private int open;

        Script(Tokens tokens) {
            this.tokens = tokens;
            for (int i = 0; i < MOST_ENTRIES; i++) {
                verbs[i] = Word.NOT_A_WORD;
            }
        }

        boolean read(Net net) {
            entries = 0;
            commands = 0;
            open = 0;
            tokens.begin();
            // Each part takes a byte at least.
            for (int i = 0; i < MOST_BYTES && (tokens.kind != Tokens.END || open > 0); i++) {
                if (!readPart(net)) {
                    return false;
                }
            }
            return true;
        }

        // A part is a whole command, or what stands before or behind the commands of a repeat.
        private boolean readPart(Net net) {
            if (tokens.kind == ')' && open > 0) {
                return closeRepeat();
            }
            if (!isCommand(tokens.word)) {
                return tokens.fail(MISPLACED);
            }
            if (tokens.word == Word.REPEAT && open >= MOST_OPEN_REPEATS) {
                return tokens.fail(TAKEN);
            }
            if (commands >= MOST_COMMANDS) {
                return tokens.fail(TOO_MANY);
            }
            commands++;
            return tokens.word == Word.REPEAT ? openRepeat() : readCommand(net) && tokens.passSign(';');
        }

        private static boolean isCommand(Word word) {
            return word == Word.SOLVE || word == Word.SWEEP || word == Word.SET || word == Word.LAY
                    || word == Word.TURN || word == Word.CALM || word == Word.REPEAT;
        }

        private boolean openRepeat() {
            if (open >= 0 && open < MOST_OPEN_REPEATS) {
                openRepeats[open] = entries;
                open++;
            }
            tokens.advance();
            int rounds = tokens.number;
            if (!tokens.passNumber(Word.REPEAT)) {
                return false;
            }
            addEntry(Word.REPEAT, NONE, rounds);
            return tokens.passSign('(');
        }

        private boolean closeRepeat() {
            open--;
            if (open >= 0 && open < MOST_OPEN_REPEATS) {
                addEntry(Word.END_OF_REPEAT, NONE, openRepeats[open]);
            }
            tokens.advance();
            return tokens.passSign(';');
        }

        private boolean readCommand(Net net) {
            Word verb = tokens.word;
            tokens.advance();
            int circle = NONE;
            if (verb == Word.SOLVE || verb == Word.SET) {
                if (!tokens.isCircle(net)) {
                    return false;
                }
                circle = net.circleNamed(tokens.letters);
                tokens.advance();
            }
            int number = tokens.number;
            if (verb.takesNumber() && !tokens.passNumber(verb)) {
                return false;
            }
            addEntry(verb, circle, number);
            return true;
        }

        private void addEntry(Word verb, int circle, int number) {
            if (entries >= 0 && entries < MOST_ENTRIES) {
                verbs[entries] = verb;
                circles[entries] = circle;
                numbers[entries] = number;
                entries++;
            }
        }

        // The command that is due at this entry or behind it, through all rounds of repeats.
        int commandFrom(int entry) {
            int i = entry;
            for (int step = 0; step < MOST_STEPS && i >= 0 && i < entries && i < MOST_ENTRIES; step++) {
                if (verbs[i] == Word.REPEAT) {
                    roundsLeft[i] = numbers[i];
                    i++;
                } else if (verbs[i] == Word.END_OF_REPEAT) {
                    i = isRoundLeft(numbers[i]) ? numbers[i] + 1 : i + 1;
                } else {
                    return i;
                }
            }
            return NONE;
        }

        private boolean isRoundLeft(int repeat) {
            if (repeat < 0 || repeat >= MOST_ENTRIES) {
                return false;
            }
            roundsLeft[repeat]--;
            return roundsLeft[repeat] > 0;
        }

        Word verbOf(int i) {
            Word verb = i >= 0 && i < MOST_ENTRIES ? verbs[i] : Word.NOT_A_WORD;
            return verb == null ? Word.NOT_A_WORD : verb;
        }

        int circleOf(int i) {
            return i >= 0 && i < MOST_ENTRIES ? circles[i] : NONE;
        }

        int numberOf(int i) {
            return i >= 0 && i < MOST_ENTRIES ? numbers[i] : 0;
        }
    }

    /** Radii and the layout: what undo brings back. */
    private static final class Packing {
        final int[] radii = new int[MOST_CIRCLES];
        final int[] xs = new int[MOST_CIRCLES];
        final int[] ys = new int[MOST_CIRCLES];
        final boolean[] isPlaced = new boolean[MOST_CIRCLES];
        final int[] order = new int[MOST_CIRCLES];
        int puts;

        void begin(Net net) {
            for (int c = 0; c < MOST_CIRCLES; c++) {
                radii[c] = net.firstRadius(c);
            }
            clearPlaces();
        }

        void copyFrom(Packing other) {
            System.arraycopy(other.radii, 0, radii, 0, MOST_CIRCLES);
            System.arraycopy(other.xs, 0, xs, 0, MOST_CIRCLES);
            System.arraycopy(other.ys, 0, ys, 0, MOST_CIRCLES);
            System.arraycopy(other.isPlaced, 0, isPlaced, 0, MOST_CIRCLES);
            System.arraycopy(other.order, 0, order, 0, MOST_CIRCLES);
            puts = other.puts;
        }

        private static boolean isIndex(int circle) {
            return circle >= 0 && circle < MOST_CIRCLES;
        }

        int radiusOf(int circle) {
            return circle >= 0 && circle < MOST_CIRCLES ? radii[circle] : 1;
        }

        void changeRadius(int circle, int radius) {
            if (isIndex(circle)) {
                radii[circle] = radius;
            }
        }

        // How far two circles that touch are from each other.
        long reach(int circle, int other) {
            return (long) radiusOf(circle) + radiusOf(other);
        }

        boolean hasPlace(int circle) {
            return isIndex(circle) && isPlaced[circle];
        }

        int xOf(int circle) {
            return isIndex(circle) ? xs[circle] : 0;
        }

        int yOf(int circle) {
            return isIndex(circle) ? ys[circle] : 0;
        }

        int putCircle(int i) {
            return i >= 0 && i < puts && i < MOST_CIRCLES ? order[i] : NONE;
        }

        void clearPlaces() {
            puts = 0;
            for (int c = 0; c < MOST_CIRCLES; c++) {
                isPlaced[c] = false;
            }
        }

        void put(int circle, long x, long y) {
            if (isIndex(circle) && isIndex(puts) && !isPlaced[circle]) {
                xs[circle] = bounded(x);
                ys[circle] = bounded(y);
                isPlaced[circle] = true;
                order[puts] = circle;
                puts++;
            }
        }

        private static int bounded(long coordinate) {
            return (int) Math.max(-MOST_LAID, Math.min(MOST_LAID, coordinate));
        }

        boolean canShift(int dx, int dy) {
            for (int c = 0; c < MOST_CIRCLES; c++) {
                if (isPlaced[c] && (isTooFar(xs[c] + dx) || isTooFar(ys[c] + dy))) {
                    return false;
                }
            }
            return true;
        }

        private static boolean isTooFar(int coordinate) {
            return coordinate < -MOST_SHIFTED || coordinate > MOST_SHIFTED;
        }

        void shiftPlaces(int dx, int dy) {
            for (int c = 0; c < MOST_CIRCLES; c++) {
                if (isPlaced[c]) {
                    xs[c] += dx;
                    ys[c] += dy;
                }
            }
        }

        void turnPlaces() {
            for (int c = 0; c < MOST_CIRCLES; c++) {
                if (isPlaced[c]) {
                    int x = xs[c];
                    xs[c] = -ys[c];
                    ys[c] = x;
                }
            }
        }
    }

    /** Angles around circles, the radii that they ask for, and their bounds. */
    private static final class Solver {
        final Net net;
        final Packing packing;

        Solver(Net net, Packing packing) {
            this.net = net;
            this.packing = packing;
        }

        static long angleBetween(long own, long next, long behind) {
            long product = quotient(2 * UNIT * next, own + next) * behind;
            long w = UNIT - quotient(product, own + behind);
            for (int i = 0; i < 6; i++) {
                w = root((UNIT + w) * UNIT / 2);
            }
            return 64 * root(2 * UNIT * (UNIT - w));
        }

        long sumOf(int circle) {
            return sumWith(circle, packing.radiusOf(circle), 0);
        }

        // The sum of a circle with this radius, the radii of all others being changed as told.
        // Each face of a circle stands between a neighbor and the one that follows it.
        private long sumWith(int circle, int own, int change) {
            int length = net.rowLength(circle);
            int between = net.kindOf(circle) == INNER ? length : length - 1;
            long sum = 0;
            for (int i = 0; i < between; i++) {
                int next = net.inRow(circle, i);
                int behind = net.inRow(circle, i + 1 < length ? i + 1 : 0);
                sum += angleBetween(own, changed(next, change), changed(behind, change));
            }
            return sum;
        }

        private int changed(int circle, int change) {
            return Math.max(1, packing.radiusOf(circle) + change);
        }

        long targetOf(int circle) {
            return net.degreesOf(circle) * FULL_TURN / FULL_DEGREES;
        }

        long defectOf(int circle) {
            return targetOf(circle) - sumWith(circle, packing.radiusOf(circle), 0);
        }

        long allDefects() {
            long all = 0;
            for (int c = 0; c < net.circles; c++) {
                if (net.isFree(c)) {
                    all += Math.abs(defectOf(c));
                }
            }
            return all;
        }

        boolean isSolvable(int circle) {
            return net.isFree(circle) && net.rowLength(circle) > 0;
        }

        // Goes up or down from the present radius in growing steps until it has passed the radius
        // that is sought, and halves from there: most sweeps change little.
        int solvedRadius(int circle) {
            if (!isSolvable(circle)) {
                return NONE;
            }
            long target = targetOf(circle);
            int enough = 0;
            int tooGreat = MOST_RADIUS + 1;
            int tried = packing.radiusOf(circle);
            long step = 1;
            for (int i = 0; i < 62 && tooGreat - enough > 1; i++) {
                if (sumWith(circle, tried, 0) >= target) {
                    enough = tried;
                } else {
                    tooGreat = tried;
                }
                if (tooGreat > MOST_RADIUS) {
                    tried = (int) Math.min(MOST_RADIUS, enough + step);
                } else if (enough == 0) {
                    tried = (int) Math.max(1, tooGreat - step);
                } else {
                    tried = (enough + tooGreat) / 2;
                }
                step *= 2;
            }
            return Math.max(1, enough);
        }

        int sweepOnce() {
            int changes = 0;
            for (int c = 0; c < net.circles; c++) {
                int radius = solvedRadius(c);
                if (radius != NONE && radius != packing.radiusOf(c)) {
                    packing.changeRadius(c, radius);
                    changes++;
                }
            }
            return changes;
        }

        void sweepTimes(int number) {
            for (int i = 0; i < number; i++) {
                sweepOnce();
            }
        }

        boolean calmDown(long bound) {
            for (int i = 0; i < MOST_SCRIPT_SWEEPS && allDefects() > bound; i++) {
                sweepOnce();
            }
            return allDefects() <= bound;
        }

        long lowestSum(int circle, int slack) {
            return sumWith(circle, changed(circle, slack), -slack);
        }

        long highestSum(int circle, int slack) {
            return sumWith(circle, changed(circle, -slack), slack);
        }

        boolean isWithin(int circle, int slack, int bound) {
            long target = targetOf(circle);
            return lowestSum(circle, slack) >= target - bound && highestSum(circle, slack) <= target + bound;
        }

        boolean areAllWithin(int slack, int bound) {
            for (int c = 0; c < net.circles; c++) {
                if (net.isFree(c) && !isWithin(c, slack, bound)) {
                    return false;
                }
            }
            return true;
        }
    }

    /** Puts circles in the plane, and looks how well they lie there. */
    private static final class Layout {
        final Net net;
        final Packing packing;

        Layout(Net net, Packing packing) {
            this.net = net;
            this.packing = packing;
        }

        void layFrom(int face) {
            packing.clearPlaces();
            int first = net.cornerOf(face, 0);
            int second = net.cornerOf(face, 1);
            packing.put(first, 0, 0);
            packing.put(second, packing.reach(first, second), 0);
            putThird(face);
            for (int i = 0; i < MOST_CIRCLES; i++) {
                int next = lowestFaceWithTwo();
                if (next == NONE) {
                    return;
                }
                putThird(next);
            }
        }

        private int lowestFaceWithTwo() {
            for (int f = 0; f < net.faces; f++) {
                if (countPut(f) == 2) {
                    return f;
                }
            }
            return NONE;
        }

        private int countPut(int face) {
            int number = 0;
            for (int corner = 0; corner < CORNERS; corner++) {
                if (packing.hasPlace(net.cornerOf(face, corner))) {
                    number++;
                }
            }
            return number;
        }

        private void putThird(int face) {
            for (int corner = 0; corner < CORNERS; corner++) {
                if (!packing.hasPlace(net.cornerOf(face, corner))) {
                    putBefore(net.cornerOf(face, corner), net.cornerOf(face, corner + 1),
                            net.cornerOf(face, corner + 2));
                    return;
                }
            }
        }

        // Puts t so that it touches p and q, to the left of the way from p to q.
        private void putBefore(int t, int p, int q) {
            long d = packing.reach(p, q);
            long toP = packing.reach(p, t);
            long toQ = packing.reach(q, t);
            long along = quotient(d * d + toP * toP - toQ * toQ, 2 * d);
            long aside = root(toP * toP - along * along);
            long dx = (long) packing.xOf(q) - packing.xOf(p);
            long dy = (long) packing.yOf(q) - packing.yOf(p);
            packing.put(t, packing.xOf(p) + quotient(dx * along - dy * aside, d),
                    packing.yOf(p) + quotient(dx * aside + dy * along, d));
        }

        boolean isFacePut(int face) {
            return countPut(face) == CORNERS;
        }

        // All places are moved alike, so two are never farther apart than the bounds of a layout.
        int gapOf(int circle, int other) {
            long dx = (long) packing.xOf(other) - packing.xOf(circle);
            long dy = (long) packing.yOf(other) - packing.yOf(circle);
            return (int) (root(dx * dx + dy * dy) - packing.reach(circle, other));
        }

        private boolean areBothPut(int circle, int other) {
            return packing.hasPlace(circle) && packing.hasPlace(other);
        }

        int loosestPair() {
            int loosest = NONE;
            int greatest = -1;
            for (int a = 0; a < net.circles; a++) {
                for (int b = a + 1; b < net.circles; b++) {
                    if (areBothPut(a, b) && net.areNeighbors(a, b) && Math.abs(gapOf(a, b)) > greatest) {
                        greatest = Math.abs(gapOf(a, b));
                        loosest = MOST_CIRCLES * a + b;
                    }
                }
            }
            return loosest;
        }

        int countOverlaps(int bound) {
            int number = 0;
            for (int a = 0; a < net.circles; a++) {
                for (int b = a + 1; b < net.circles; b++) {
                    if (areBothPut(a, b) && !net.areNeighbors(a, b) && gapOf(a, b) < -bound) {
                        number++;
                    }
                }
            }
            return number;
        }

        long areaOf(int face) {
            int first = net.cornerOf(face, 0);
            int second = net.cornerOf(face, 1);
            int third = net.cornerOf(face, 2);
            long x2 = (long) packing.xOf(second) - packing.xOf(first);
            long y2 = (long) packing.yOf(second) - packing.yOf(first);
            long x3 = (long) packing.xOf(third) - packing.xOf(first);
            long y3 = (long) packing.yOf(third) - packing.yOf(first);
            return x2 * y3 - x3 * y2;
        }

        int boxSide(boolean isX, boolean isGreatest) {
            int side = isGreatest ? Integer.MIN_VALUE : Integer.MAX_VALUE;
            for (int c = 0; c < net.circles; c++) {
                if (packing.hasPlace(c)) {
                    int middle = isX ? packing.xOf(c) : packing.yOf(c);
                    int radius = packing.radiusOf(c);
                    side = isGreatest ? Math.max(side, middle + radius) : Math.min(side, middle - radius);
                }
            }
            return side;
        }

        // Points farther off than the radius in one coordinate go first: their squares may not fit.
        boolean covers(int circle, int x, int y) {
            long dx = (long) x - packing.xOf(circle);
            long dy = (long) y - packing.yOf(circle);
            long radius = packing.radiusOf(circle);
            if (Math.abs(dx) > radius || Math.abs(dy) > radius) {
                return false;
            }
            return dx * dx + dy * dy <= radius * radius;
        }

        int touchOf(int circle, int other, boolean isX) {
            long from = isX ? packing.xOf(circle) : packing.yOf(circle);
            long to = isX ? packing.xOf(other) : packing.yOf(other);
            return (int) (from + quotient((to - from) * packing.radiusOf(circle), packing.reach(circle, other)));
        }
    }

    /** The packings before the latest calls that can be undone. */
    private static final class History {
        // One more than are kept, so that one can be noted before it is clear that it is kept.
        static final int SLOTS = MOST_UNDOS + 1;

        final Packing[] slots = new Packing[SLOTS];
        int next;
        int size;

        History() {
            for (int i = 0; i < SLOTS; i++) {
                slots[i] = new Packing();
            }
        }

        private Packing slot(int i) {
            return i >= 0 && i < SLOTS ? slots[i] : null;
        }

        void note(Packing packing) {
            Packing slot = slot(next);
            if (slot != null) {
                slot.copyFrom(packing);
            }
        }

        void keep() {
            next = (next + 1) % SLOTS;
            size = Math.min(size + 1, MOST_UNDOS);
        }

        void bringBack(Packing packing) {
            next = (next + SLOTS - 1) % SLOTS;
            size = Math.max(size - 1, 0);
            Packing slot = slot(next);
            if (slot != null) {
                packing.copyFrom(slot);
            }
        }

        void forget() {
            size = 0;
        }
    }

    /** The bytes of the latest report. */
    private static final class Page {
        // A name, a radius and two coordinates take at most 41 bytes with what stands between them.
        final byte[] bytes = new byte[MOST_CIRCLES * 41];
        int length;

        int byteAt(int i) {
            return i >= 0 && i < length && i < bytes.length ? bytes[i] & 255 : 0;
        }

        void writeByte(int b) {
            if (length >= 0 && length < bytes.length) {
                bytes[length] = (byte) b;
                length++;
            }
        }

        void writeWord(long letters) {
            for (int shift = 56; shift >= 0; shift -= 8) {
                int letter = (int) (letters >> shift) & 255;
                if (letter != 0) {
                    writeByte(letter);
                }
            }
        }

        void writeNumber(int number) {
            if (number < 0) {
                writeByte('-');
            }
            long size = Math.abs((long) number);
            for (long unit = UNIT; unit >= 1; unit /= 10) {
                if (size >= unit || unit == 1) {
                    writeByte('0' + (int) (size / unit % 10));
                }
            }
        }
    }
}
