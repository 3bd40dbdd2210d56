import java.nio.charset.StandardCharsets;
import java.util.ArrayDeque;
import java.util.ArrayList;
import java.util.Deque;
import java.util.HashSet;
import java.util.List;
import java.util.Set;
import java.util.regex.Matcher;
import java.util.regex.Pattern;

/**
 * What the document asks for, written a second time with the Java library and without any regard
 * to speed, so that the program's answers can be compared with another's.
 */
final class Model {
    static final long S = 1000000000L;

    static final class Circle {
        String name;
        int degrees;
        long radius;
        boolean put;
        long x;
        long y;

        Circle copy() {
            Circle c = new Circle();
            c.name = name;
            c.degrees = degrees;
            c.radius = radius;
            c.put = put;
            c.x = x;
            c.y = y;
            return c;
        }
    }

    /** Everything that is saved. */
    static final class State {
        List<Circle> circles = new ArrayList<>();
        List<int[]> faces = new ArrayList<>();
        List<Integer> order = new ArrayList<>();

        State copy() {
            State s = new State();
            for (Circle c : circles) {
                s.circles.add(c.copy());
            }
            s.faces.addAll(faces);
            s.order.addAll(order);
            return s;
        }
    }

    /** An error of a text. */
    static final class TextError extends Exception {
        private static final long serialVersionUID = 1;
        final int code;
        final int position;

        TextError(int code, int position) {
            this.code = code;
            this.position = position;
        }
    }

    State state = new State();
    State saved = null;
    Deque<State> undos = new ArrayDeque<>();
    StringBuilder buffer = new StringBuilder();
    int errorCode = 0;
    int errorPosition = -1;
    String report = null;

    // ---- texts

    static final class Token {
        String text;
        int start;
        boolean invalid;

        boolean isWord() {
            return !invalid && !text.isEmpty() && text.charAt(0) >= 'a' && text.charAt(0) <= 'z';
        }

        boolean isNumber() {
            return !invalid && !text.isEmpty() && text.charAt(0) >= '0' && text.charAt(0) <= '9';
        }

        boolean isName() {
            return isWord() && !KEYWORDS.contains(text);
        }
    }

    static final Set<String> KEYWORDS = Set.of("circle", "radius", "angle", "face", "scale", "solve", "sweep",
            "set", "lay", "turn", "calm", "repeat");

    List<Token> tokens;
    int at;

    void split(String text) {
        tokens = new ArrayList<>();
        Matcher m = Pattern.compile("[a-z]+|[0-9]+|[^ \n]", Pattern.DOTALL).matcher(text);
        while (m.find()) {
            Token t = new Token();
            t.text = m.group();
            t.start = m.start();
            t.invalid = !t.text.matches("[a-z]{1,8}|[0-9]{1,6}|[;()]");
            tokens.add(t);
        }
        Token end = new Token();
        end.text = "";
        end.start = text.length();
        tokens.add(end);
        at = 0;
    }

    Token token() {
        return tokens.get(at);
    }

    boolean ended() {
        return at == tokens.size() - 1;
    }

    void error(int code) throws TextError {
        throw new TextError(code, token().start);
    }

    void expect(String sign) throws TextError {
        if (!token().text.equals(sign)) {
            error(1);
        }
        at++;
    }

    int expectNumber(int least, int most) throws TextError {
        if (!token().isNumber()) {
            error(1);
        }
        int n = Integer.parseInt(token().text);
        if (n < least || n > most) {
            error(2);
        }
        at++;
        return n;
    }

    static int indexOf(List<Circle> circles, String name) {
        for (int i = 0; i < circles.size(); i++) {
            if (circles.get(i).name.equals(name)) {
                return i;
            }
        }
        return -1;
    }

    int expectCircle(List<Circle> circles) throws TextError {
        if (!token().isName()) {
            error(1);
        }
        int c = indexOf(circles, token().text);
        if (c < 0) {
            error(4);
        }
        at++;
        return c;
    }

    static Set<Integer> sidesOf(List<int[]> faces) {
        Set<Integer> sides = new HashSet<>();
        for (int[] f : faces) {
            for (int k = 0; k < 3; k++) {
                sides.add(100 * f[k] + f[(k + 1) % 3]);
            }
        }
        return sides;
    }

    long readNet() {
        String text = buffer.toString();
        buffer.setLength(0);
        errorCode = 0;
        errorPosition = -1;
        try {
            State next = new State();
            int statements = parseNet(text, next);
            state = next;
            undos.clear();
            return statements;
        } catch (TextError e) {
            errorCode = e.code;
            errorPosition = e.position;
            throw new IllegalArgumentException();
        }
    }

    int parseNet(String text, State next) throws TextError {
        split(text);
        int statements = 0;
        int scale = -1;
        while (!ended()) {
            switch (token().text) {
                case "circle":
                    parseCircle(next);
                    break;
                case "face":
                    parseFace(next);
                    break;
                case "scale":
                    if (scale >= 0) {
                        error(3);
                    }
                    at++;
                    scale = expectNumber(1, 100000);
                    break;
                default:
                    error(1);
            }
            expect(";");
            statements++;
        }
        for (Circle c : next.circles) {
            if (c.radius == 0) {
                c.radius = scale < 0 ? 1000 : scale;
            }
        }
        for (int c = 0; c < next.circles.size(); c++) {
            if (!isOneRow(next, c)) {
                throw new TextError(6, text.length());
            }
        }
        return statements;
    }

    void parseCircle(State next) throws TextError {
        if (next.circles.size() == 12) {
            error(5);
        }
        at++;
        Circle c = new Circle();
        c.name = token().text;
        if (!token().isName()) {
            error(1);
        }
        if (indexOf(next.circles, c.name) >= 0) {
            error(3);
        }
        at++;
        c.degrees = 360;
        if (token().text.equals("radius")) {
            at++;
            c.degrees = 0;
            c.radius = expectNumber(1, 100000);
        } else if (token().text.equals("angle")) {
            at++;
            c.degrees = expectNumber(1, 1800);
        }
        next.circles.add(c);
    }

    void parseFace(State next) throws TextError {
        if (next.faces.size() == 20) {
            error(5);
        }
        at++;
        Set<Integer> sides = sidesOf(next.faces);
        int a = expectCircle(next.circles);
        int b = expectCircle(next.circles);
        at--;
        if (a == b || sides.contains(100 * a + b)) {
            error(3);
        }
        at++;
        int c = expectCircle(next.circles);
        at--;
        if (a == c || b == c || sides.contains(100 * b + c) || sides.contains(100 * c + a)) {
            error(3);
        }
        at++;
        next.faces.add(new int[] {a, b, c});
    }

    static Set<Integer> neighborsOf(State s, int c) {
        Set<Integer> all = new HashSet<>();
        for (int[] f : s.faces) {
            for (int k = 0; k < 3; k++) {
                if (f[k] == c) {
                    all.add(f[(k + 1) % 3]);
                    all.add(f[(k + 2) % 3]);
                }
            }
        }
        return all;
    }

    static int followerOf(State s, int c, int a) {
        for (int[] f : s.faces) {
            for (int k = 0; k < 3; k++) {
                if (f[k] == c && f[(k + 1) % 3] == a) {
                    return f[(k + 2) % 3];
                }
            }
        }
        return -1;
    }

    static List<Integer> rowOf(State s, int c) {
        Set<Integer> all = neighborsOf(s, c);
        Set<Integer> starts = new HashSet<>(all);
        for (int a : all) {
            starts.remove(followerOf(s, c, a));
        }
        List<Integer> row = new ArrayList<>();
        if (all.isEmpty()) {
            return row;
        }
        int next = starts.isEmpty() ? java.util.Collections.min(all) : java.util.Collections.min(starts);
        while (next >= 0 && !row.contains(next)) {
            row.add(next);
            next = followerOf(s, c, next);
        }
        return row;
    }

    static boolean isOneRow(State s, int c) {
        return new HashSet<>(rowOf(s, c)).equals(neighborsOf(s, c));
    }

    static final class Command {
        String verb;
        int circle;
        int number;
        List<Command> body;
    }

    int commands;
    int done;

    long runScript() {
        String text = buffer.toString();
        buffer.setLength(0);
        errorCode = 0;
        errorPosition = -1;
        List<Command> script;
        try {
            split(text);
            commands = 0;
            script = parseScript(0);
        } catch (TextError e) {
            errorCode = e.code;
            errorPosition = e.position;
            throw new IllegalArgumentException();
        }
        State before = state.copy();
        done = 0;
        run(script);
        if (done > 0) {
            push(before);
        }
        return done;
    }

    List<Command> parseScript(int depth) throws TextError {
        List<Command> list = new ArrayList<>();
        while (true) {
            if (depth == 0 && ended() || depth > 0 && token().text.equals(")")) {
                return list;
            }
            Command c = new Command();
            c.verb = token().text;
            if (!Set.of("solve", "sweep", "set", "lay", "turn", "calm", "repeat").contains(c.verb)) {
                error(1);
            }
            if (c.verb.equals("repeat") && depth == 2) {
                error(3);
            }
            commands++;
            if (commands == 31) {
                error(5);
            }
            at++;
            switch (c.verb) {
                case "solve":
                    c.circle = expectCircle(state.circles);
                    break;
                case "sweep":
                    c.number = expectNumber(1, 6);
                    break;
                case "set":
                    c.circle = expectCircle(state.circles);
                    c.number = expectNumber(1, 1000000);
                    break;
                case "lay":
                    c.number = expectNumber(0, 999999);
                    break;
                case "calm":
                    c.number = expectNumber(0, 999999);
                    break;
                case "repeat":
                    c.number = expectNumber(1, 10);
                    expect("(");
                    c.body = parseScript(depth + 1);
                    expect(")");
                    break;
                default:
                    break;
            }
            expect(";");
            list.add(c);
        }
    }

    boolean run(List<Command> script) {
        for (Command c : script) {
            if (c.body != null) {
                for (int i = 0; i < c.number; i++) {
                    if (!run(c.body)) {
                        return false;
                    }
                }
                continue;
            }
            if (done == 20) {
                return false;
            }
            switch (c.verb) {
                case "solve":
                    if (solved(c.circle) < 0) {
                        return false;
                    }
                    state.circles.get(c.circle).radius = solved(c.circle);
                    break;
                case "sweep":
                    for (int i = 0; i < c.number; i++) {
                        sweepOnce();
                    }
                    break;
                case "set":
                    state.circles.get(c.circle).radius = c.number;
                    break;
                case "lay":
                    if (c.number >= state.faces.size()) {
                        return false;
                    }
                    layOnce(c.number);
                    break;
                case "turn":
                    if (state.order.isEmpty()) {
                        return false;
                    }
                    turnOnce();
                    break;
                default:
                    for (int i = 0; i < 6 && unrest() > 1000L * c.number; i++) {
                        sweepOnce();
                    }
                    if (unrest() > 1000L * c.number) {
                        return false;
                    }
            }
            done++;
        }
        return true;
    }

    void push(State before) {
        undos.push(before);
        while (undos.size() > 5) {
            undos.removeLast();
        }
    }

    // ---- angles

    static long root(long n) {
        if (n <= 0) {
            return 0;
        }
        long r = (long) Math.sqrt((double) n);
        while (Math.multiplyExact(r, r) > n) {
            r--;
        }
        while (Math.multiplyExact(r + 1, r + 1) <= n) {
            r++;
        }
        return r;
    }

    static long angle(long r, long a, long b) {
        long w = S - Math.multiplyExact(Math.floorDiv(2 * S * a, r + a), b) / (r + b);
        for (int i = 0; i < 6; i++) {
            w = root(Math.multiplyExact(S + w, S) / 2);
        }
        return 64 * root(Math.multiplyExact(2 * S, S - w));
    }

    long sumWith(int circle, long own, long change) {
        long sum = 0;
        for (int[] f : state.faces) {
            for (int k = 0; k < 3; k++) {
                if (f[k] == circle) {
                    sum += angle(own, Math.max(1, state.circles.get(f[(k + 1) % 3]).radius + change),
                            Math.max(1, state.circles.get(f[(k + 2) % 3]).radius + change));
                }
            }
        }
        return sum;
    }

    long sum(int c) {
        return sumWith(c, state.circles.get(c).radius, 0);
    }

    long target(int c) {
        return Math.multiplyExact(state.circles.get(c).degrees, 6283185307L) / 360;
    }

    boolean free(int c) {
        return state.circles.get(c).degrees > 0;
    }

    long unrest() {
        long all = 0;
        for (int c = 0; c < state.circles.size(); c++) {
            all += free(c) ? Math.abs(target(c) - sum(c)) : 0;
        }
        return all;
    }

    long solved(int c) {
        if (!free(c) || neighborsOf(state, c).isEmpty()) {
            return -1;
        }
        long r = 0;
        for (long bit = 1 << 19; bit > 0; bit /= 2) {
            if (r + bit <= 1000000 && sumWith(c, r + bit, 0) >= target(c)) {
                r += bit;
            }
        }
        return Math.max(1, r);
    }

    long sweepOnce() {
        long changes = 0;
        for (int c = 0; c < state.circles.size(); c++) {
            long r = solved(c);
            if (r > 0 && r != state.circles.get(c).radius) {
                state.circles.get(c).radius = r;
                changes++;
            }
        }
        return changes;
    }

    boolean certain(int c, long slack, long bound) {
        return lowSum(c, slack) >= target(c) - bound && highSum(c, slack) <= target(c) + bound;
    }

    long lowSum(int c, long slack) {
        return sumWith(c, state.circles.get(c).radius + slack, -slack);
    }

    long highSum(int c, long slack) {
        return sumWith(c, Math.max(1, state.circles.get(c).radius - slack), slack);
    }

    // ---- layout

    void place(int c, long x, long y) {
        Circle circle = state.circles.get(c);
        circle.put = true;
        circle.x = Math.max(-700000000, Math.min(700000000, x));
        circle.y = Math.max(-700000000, Math.min(700000000, y));
        state.order.add(c);
    }

    int countPut(int[] f) {
        int n = 0;
        for (int c : f) {
            n += state.circles.get(c).put ? 1 : 0;
        }
        return n;
    }

    void layOnce(int face) {
        for (Circle c : state.circles) {
            c.put = false;
        }
        state.order.clear();
        int[] f = state.faces.get(face);
        place(f[0], 0, 0);
        place(f[1], state.circles.get(f[0]).radius + state.circles.get(f[1]).radius, 0);
        while (f != null) {
            placeThird(f);
            f = null;
            for (int i = state.faces.size() - 1; i >= 0; i--) {
                if (countPut(state.faces.get(i)) == 2) {
                    f = state.faces.get(i);
                }
            }
        }
    }

    void placeThird(int[] f) {
        int k = 0;
        while (state.circles.get(f[k]).put) {
            k++;
        }
        Circle t = state.circles.get(f[k]);
        Circle p = state.circles.get(f[(k + 1) % 3]);
        Circle q = state.circles.get(f[(k + 2) % 3]);
        long d = p.radius + q.radius;
        long pt = p.radius + t.radius;
        long qt = q.radius + t.radius;
        long x = (d * d + pt * pt - qt * qt) / (2 * d);
        long y = root(pt * pt - x * x);
        place(f[k], p.x + Math.subtractExact(Math.multiplyExact(q.x - p.x, x), Math.multiplyExact(q.y - p.y, y)) / d,
                p.y + Math.addExact(Math.multiplyExact(q.x - p.x, y), Math.multiplyExact(q.y - p.y, x)) / d);
    }

    void turnOnce() {
        for (Circle c : state.circles) {
            if (c.put) {
                long x = c.x;
                c.x = -c.y;
                c.y = x;
            }
        }
    }

    long gap(int a, int b) {
        Circle p = state.circles.get(a);
        Circle q = state.circles.get(b);
        long dx = p.x - q.x;
        long dy = p.y - q.y;
        return root(Math.addExact(Math.multiplyExact(dx, dx), Math.multiplyExact(dy, dy))) - p.radius - q.radius;
    }

    long area(int face) {
        int[] f = state.faces.get(face);
        Circle a = state.circles.get(f[0]);
        Circle b = state.circles.get(f[1]);
        Circle c = state.circles.get(f[2]);
        return Math.subtractExact(Math.multiplyExact(b.x - a.x, c.y - a.y), Math.multiplyExact(c.x - a.x, b.y - a.y));
    }

    boolean areNeighbors(int a, int b) {
        return neighborsOf(state, a).contains(b);
    }

    // ---- ways

    long[] waysFrom(int from, boolean byLength) {
        int n = state.circles.size();
        long far = Long.MAX_VALUE / 4;
        long[] way = new long[n];
        java.util.Arrays.fill(way, far);
        way[from] = 0;
        boolean[] settled = new boolean[n];
        for (int round = 0; round < n; round++) {
            int best = -1;
            for (int c = 0; c < n; c++) {
                if (!settled[c] && (best < 0 || way[c] < way[best])) {
                    best = c;
                }
            }
            settled[best] = true;
            for (int b : neighborsOf(state, best)) {
                long step = byLength ? state.circles.get(best).radius + state.circles.get(b).radius : 1;
                way[b] = Math.min(way[b], way[best] + step);
            }
        }
        for (int c = 0; c < n; c++) {
            way[c] = way[c] >= far ? -1 : way[c];
        }
        return way;
    }

    List<Integer> borderOf(int circle) {
        List<Integer> border = new ArrayList<>();
        int c = circle;
        while (kind(circle) == 1 && !border.contains(c)) {
            border.add(c);
            List<Integer> row = rowOf(state, c);
            c = row.get(row.size() - 1);
        }
        return border;
    }

    int kind(int c) {
        List<Integer> row = rowOf(state, c);
        if (row.isEmpty()) {
            return 2;
        }
        return followerOf(state, c, row.get(row.size() - 1)) < 0 ? 1 : 0;
    }

    // ---- the calls by their names

    private void circle(int c) {
        if (c < 0 || c >= state.circles.size()) {
            throw new IndexOutOfBoundsException();
        }
    }

    private void face(int f) {
        if (f < 0 || f >= state.faces.size()) {
            throw new IndexOutOfBoundsException();
        }
    }

    private static void range(long n, long least, long most) {
        if (n < least || n > most) {
            throw new IllegalArgumentException();
        }
    }

    private void placed(int c) {
        if (!state.circles.get(c).put) {
            throw new IllegalStateException();
        }
    }

    private void note() {
        push(state.copy());
    }

    long call(String name, int[] p) {
        switch (name) {
            case "feed":
                if (buffer.length() > 780) {
                    throw new IllegalStateException();
                }
                for (int word : p) {
                    byte[] four = java.nio.ByteBuffer.allocate(4).putInt(word).array();
                    buffer.append(new String(four, StandardCharsets.ISO_8859_1));
                }
                return buffer.length();
            case "truncate":
                range(p[0], 0, buffer.length());
                buffer.setLength(p[0]);
                return p[0];
            case "readNet":
                return readNet();
            case "runScript":
                return runScript();
            case "errorCode":
                return errorCode;
            case "errorPosition":
                return errorPosition;
            default:
                return callNet(name, p);
        }
    }

    private long callNet(String name, int[] p) {
        int n = state.circles.size();
        switch (name) {
            case "count":
                return count(p[0]);
            case "kind":
                circle(p[0]);
                return kind(p[0]);
            case "degrees":
                circle(p[0]);
                return state.circles.get(p[0]).degrees;
            case "neighbors":
                circle(p[0]);
                return neighborsOf(state, p[0]).size();
            case "neighbor":
                circle(p[0]);
                return p[1] < 0 || p[1] >= rowOf(state, p[0]).size() ? -1 : rowOf(state, p[0]).get(p[1]);
            case "corner":
                face(p[0]);
                range(p[1], 0, 2);
                return state.faces.get(p[0])[p[1]];
            case "faceAt":
                circle(p[0]);
                circle(p[1]);
                for (int f = 0; f < state.faces.size(); f++) {
                    if (sidesOf(List.of(state.faces.get(f))).contains(100 * p[0] + p[1])) {
                        return f;
                    }
                }
                return -1;
            case "steps":
            case "distance":
                circle(p[0]);
                circle(p[1]);
                return waysFrom(p[0], name.equals("distance"))[p[1]];
            case "parts":
                Set<String> parts = new HashSet<>();
                for (int c = 0; c < n; c++) {
                    StringBuilder part = new StringBuilder();
                    for (long way : waysFrom(c, false)) {
                        part.append(way >= 0 ? 'x' : '.');
                    }
                    parts.add(part.toString());
                }
                return parts.size();
            case "border":
                circle(p[0]);
                return p[1] < 0 || p[1] >= borderOf(p[0]).size() ? -1 : borderOf(p[0]).get(p[1]);
            case "perimeter":
                circle(p[0]);
                long length = 0;
                for (int c : borderOf(p[0])) {
                    length += 2 * state.circles.get(c).radius;
                }
                return length;
            default:
                return callAngles(name, p);
        }
    }

    private long count(int what) {
        range(what, 0, 5);
        int number = 0;
        for (int c = 0; c < state.circles.size(); c++) {
            boolean counts = what == 0 || what == 3 && kind(c) == 0 || what == 4 && kind(c) == 1 || what == 5 && free(c);
            number += counts ? 1 : 0;
            for (int b = 0; b < c && what == 2; b++) {
                number += areNeighbors(c, b) ? 1 : 0;
            }
        }
        return what == 1 ? state.faces.size() : number;
    }

    private long callAngles(String name, int[] p) {
        int n = state.circles.size();
        switch (name) {
            case "radius":
                circle(p[0]);
                return state.circles.get(p[0]).radius;
            case "angle":
                face(p[0]);
                range(p[1], 0, 2);
                int[] f = state.faces.get(p[0]);
                return angle(state.circles.get(f[p[1]]).radius, state.circles.get(f[(p[1] + 1) % 3]).radius,
                        state.circles.get(f[(p[1] + 2) % 3]).radius);
            case "sum":
                circle(p[0]);
                return sum(p[0]);
            case "defect":
                circle(p[0]);
                if (!free(p[0])) {
                    throw new IllegalStateException();
                }
                return target(p[0]) - sum(p[0]);
            case "worst":
                int worst = -1;
                for (int c = n - 1; c >= 0; c--) {
                    if (free(c) && (worst < 0
                            || Math.abs(target(c) - sum(c)) >= Math.abs(target(worst) - sum(worst)))) {
                        worst = c;
                    }
                }
                return worst;
            case "unrest":
                return unrest();
            case "closure":
                long all = 0;
                for (int c = 0; c < n; c++) {
                    all += sum(c);
                }
                return all - 3141592653L * state.faces.size();
            default:
                return callRadii(name, p);
        }
    }

    private long callRadii(String name, int[] p) {
        int n = state.circles.size();
        switch (name) {
            case "setRadius":
                circle(p[0]);
                range(p[1], 1, 1000000);
                note();
                long previous = state.circles.get(p[0]).radius;
                state.circles.get(p[0]).radius = p[1];
                return previous;
            case "solve":
                circle(p[0]);
                if (solved(p[0]) < 0) {
                    throw new IllegalStateException();
                }
                note();
                state.circles.get(p[0]).radius = solved(p[0]);
                return state.circles.get(p[0]).radius;
            case "solved":
                circle(p[0]);
                return solved(p[0]);
            case "sweep":
                note();
                return sweepOnce();
            case "settle":
                range(p[0], 1, 20);
                note();
                int made = 1;
                while (sweepOnce() > 0 && made < p[0]) {
                    made++;
                }
                return made;
            case "isSettled":
                State before = state;
                state = state.copy();
                long changes = sweepOnce();
                state = before;
                return changes == 0 ? 1 : 0;
            case "lowSum":
                circle(p[0]);
                range(p[1], 0, 1000);
                return lowSum(p[0], p[1]);
            case "highSum":
                circle(p[0]);
                range(p[1], 0, 1000);
                return highSum(p[0], p[1]);
            case "isCertain":
                circle(p[0]);
                range(p[1], 0, 1000);
                range(p[2], 0, 2000000000);
                return free(p[0]) && certain(p[0], p[1], p[2]) ? 1 : 0;
            case "greatestSlack":
                range(p[0], 0, 2000000000);
                for (int slack = 1000; slack >= 0; slack--) {
                    boolean any = false;
                    boolean all = true;
                    for (int c = 0; c < n && all; c++) {
                        any |= free(c);
                        all &= !free(c) || certain(c, slack, p[0]);
                    }
                    if (any && all) {
                        return slack;
                    }
                }
                return -1;
            default:
                return callLayout(name, p);
        }
    }

    private long callLayout(String name, int[] p) {
        int n = state.circles.size();
        switch (name) {
            case "lay":
                face(p[0]);
                note();
                layOnce(p[0]);
                return state.order.size();
            case "isPut":
                circle(p[0]);
                return state.circles.get(p[0]).put ? 1 : 0;
            case "x":
                circle(p[0]);
                placed(p[0]);
                return state.circles.get(p[0]).x;
            case "y":
                circle(p[0]);
                placed(p[0]);
                return state.circles.get(p[0]).y;
            case "putAt":
                return p[0] < 0 || p[0] >= state.order.size() ? -1 : state.order.get(p[0]);
            case "gap":
                circle(p[0]);
                circle(p[1]);
                placed(p[0]);
                placed(p[1]);
                return Math.toIntExact(gap(p[0], p[1]));
            case "audit":
            case "loosest":
                long greatest = -1;
                int pair = -1;
                for (int a = 0; a < n; a++) {
                    for (int b = a + 1; b < n; b++) {
                        if (areNeighbors(a, b) && state.order.contains(a) && state.order.contains(b)
                                && Math.abs(gap(a, b)) > greatest) {
                            greatest = Math.abs(gap(a, b));
                            pair = 12 * a + b;
                        }
                    }
                }
                return name.equals("audit") ? greatest : pair;
            case "overlaps":
                range(p[0], 0, 1000000);
                int overlaps = 0;
                for (int a = 0; a < n; a++) {
                    for (int b = a + 1; b < n; b++) {
                        boolean counts = !areNeighbors(a, b) && state.order.contains(a) && state.order.contains(b);
                        overlaps += counts && gap(a, b) < -p[0] ? 1 : 0;
                    }
                }
                return overlaps;
            case "area":
                face(p[0]);
                if (countPut(state.faces.get(p[0])) < 3) {
                    throw new IllegalStateException();
                }
                return area(p[0]);
            case "flipped":
                int flipped = 0;
                for (int f = 0; f < state.faces.size(); f++) {
                    flipped += countPut(state.faces.get(f)) == 3 && area(f) <= 0 ? 1 : 0;
                }
                return flipped;
            default:
                return callPlaces(name, p);
        }
    }

    private long callPlaces(String name, int[] p) {
        switch (name) {
            case "shift":
                range(p[0], -1000000, 1000000);
                range(p[1], -1000000, 1000000);
                for (int c : state.order) {
                    if (Math.abs(state.circles.get(c).x + p[0]) > 1000000000
                            || Math.abs(state.circles.get(c).y + p[1]) > 1000000000) {
                        throw new IllegalStateException();
                    }
                }
                note();
                for (int c : state.order) {
                    state.circles.get(c).x += p[0];
                    state.circles.get(c).y += p[1];
                }
                return state.order.size();
            case "turn":
                note();
                turnOnce();
                return state.order.size();
            case "box":
                range(p[0], 0, 3);
                if (state.order.isEmpty()) {
                    throw new IllegalStateException();
                }
                List<Long> ends = new ArrayList<>();
                for (int c : state.order) {
                    Circle o = state.circles.get(c);
                    ends.add((p[0] % 2 == 0 ? o.x : o.y) + (p[0] < 2 ? -o.radius : o.radius));
                }
                return p[0] < 2 ? java.util.Collections.min(ends) : java.util.Collections.max(ends);
            case "at":
                for (int c = 0; c < state.circles.size(); c++) {
                    Circle o = state.circles.get(c);
                    double far = Math.hypot(p[0] - (double) o.x, p[1] - (double) o.y);
                    if (o.put && far < 5000000) {
                        long dx = p[0] - o.x;
                        long dy = p[1] - o.y;
                        if (dx * dx + dy * dy <= o.radius * o.radius) {
                            return c;
                        }
                    }
                }
                return -1;
            case "touch":
                circle(p[0]);
                circle(p[1]);
                range(p[2], 0, 1);
                if (!areNeighbors(p[0], p[1])) {
                    throw new IllegalArgumentException();
                }
                placed(p[0]);
                placed(p[1]);
                Circle a = state.circles.get(p[0]);
                Circle b = state.circles.get(p[1]);
                long u1 = p[2] == 0 ? a.x : a.y;
                long u2 = p[2] == 0 ? b.x : b.y;
                return u1 + (u2 - u1) * a.radius / (a.radius + b.radius);
            default:
                return callReports(name, p);
        }
    }

    private long callReports(String name, int[] p) {
        switch (name) {
            case "report":
                StringBuilder text = new StringBuilder();
                for (Circle c : state.circles) {
                    text.append(c.name).append(' ').append(c.radius);
                    if (c.put) {
                        text.append(' ').append(c.x).append(',').append(c.y);
                    }
                    text.append('\n');
                }
                report = text.toString();
                return report.length();
            case "reportByte":
                if (report == null || p[0] < 0 || p[0] >= report.length()) {
                    throw new IndexOutOfBoundsException();
                }
                return report.charAt(p[0]);
            case "undo":
                if (undos.isEmpty()) {
                    return -1;
                }
                state = undos.pop();
                return undos.size();
            case "save":
                saved = state.copy();
                return saved.circles.size();
            case "restore":
                if (saved == null) {
                    throw new IllegalStateException();
                }
                state = saved.copy();
                undos.clear();
                return state.circles.size();
            default:
                throw new UnsupportedOperationException(name);
        }
    }
}
