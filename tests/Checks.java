import java.util.function.IntBinaryOperator;
import java.util.function.IntConsumer;

/** What tests share: checks that tell what they belong to, nets to ask, and ways to ask for all at once. */
abstract class Checks {
    static final String TRIANGLE = "circle a radius 1000;circle b radius 1000;circle c radius 1000;face a b c;";
    // Sides of 300, 500 and 400: a right angle at a.
    static final String RIGHT = "circle a radius 100;circle b radius 200;circle c radius 300;face a b c;";
    static final String WHEEL = "circle o;circle p radius 1000;circle q radius 1000;circle r radius 1000;"
            + "circle s radius 1000;circle t radius 1000;circle u radius 1000;"
            + "face o p q;face o q r;face o r s;face o s t;face o t u;face o u p;";
    // Two free circles that ask for more and less than the triangle beside them gives.
    static final String PAIR = "circle a angle 60;circle b radius 500;circle c radius 700;circle d angle 90;"
            + "face a b c;face d c b;";
    static final String TETRAHEDRON = "circle a;circle b;circle c;circle d;"
            + "face a b c;face a c d;face a d b;face d c b;";
    static final String ICOSAHEDRON = "circle a;circle b;circle c;circle d;circle e;circle f;"
            + "circle g;circle h;circle i;circle j;circle k;circle l;"
            + "face a b c;face a c d;face a d e;face a e f;face a f b;"
            + "face c b g;face d c h;face e d i;face f e j;face b f k;"
            + "face g h c;face h i d;face i j e;face j k f;face k g b;"
            + "face l h g;face l i h;face l j i;face l k j;face l g k;";
    // The sum of circle a is its target to the unit.
    static final String EXACT = "circle a angle 795;circle b radius 50558;circle c radius 5879;"
            + "circle d radius 5879;circle e radius 5879;circle f radius 5879;circle g radius 2716;"
            + "face a b c;face a c d;face a d e;face a e f;face a f g;scale 100;";
    static final String TWO_PARTS = "circle a;circle b;circle c;circle d;circle e;circle f;face a b c;face d e f;";

    private static int parts = 0;
    private static int checks = 0;
    private static int wrong = 0;
    private static String part = "";

    interface Call {
        void run();
    }

    /** Runs the checks that belong to what is told: a promise, or a sentence of the document. */
    static void part(String told, Call call) {
        parts++;
        part = told;
        int before = checks;
        try {
            call.run();
        } catch (RuntimeException e) {
            fail("ended with " + e + " at " + e.getStackTrace()[0]);
        }
        if (checks == before) {
            fail("checks nothing");
        }
    }

    private static void fail(String told) {
        wrong++;
        System.out.println(part + ": " + told);
    }

    static void end() {
        System.out.println(parts + " parts with " + checks + " checks, " + wrong + " are not as due");
        if (wrong != 0) {
            System.exit(1);
        }
    }

    static void is(String what, long got, long due) {
        checks++;
        if (got != due) {
            fail(what + " answered " + got + ", due is " + due);
        }
    }

    static void is(String what, boolean got, boolean due) {
        is(what, got ? 1 : 0, due ? 1 : 0);
    }

    static void same(String what, String got, String due) {
        checks++;
        if (!got.equals(due)) {
            fail(what + " answered " + got + ", due is " + due);
        }
    }

    static void fails(String what, Class<?> due, Call call) {
        Object got = "nothing";
        try {
            call.run();
        } catch (RuntimeException e) {
            got = e.getClass();
        }
        checks++;
        if (got != due) {
            fail(what + " throws " + got + ", due is " + due);
        }
    }

    static void index(String what, Call call) {
        fails(what, IndexOutOfBoundsException.class, call);
    }

    static void argument(String what, Call call) {
        fails(what, IllegalArgumentException.class, call);
    }

    static void state(String what, Call call) {
        fails(what, IllegalStateException.class, call);
    }

    static CirclePacker net(String text) {
        CirclePacker packer = new CirclePacker();
        Calls.give(packer, text);
        packer.readNet();
        return packer;
    }

    static int script(CirclePacker packer, String text) {
        Calls.give(packer, text);
        return packer.runScript();
    }

    static String report(CirclePacker packer) {
        int length = packer.report();
        StringBuilder text = new StringBuilder();
        for (int i = 0; i < length; i++) {
            text.append((char) packer.reportByte(i));
        }
        return text.toString();
    }

    // What the net is, radii and places, in few calls: an object is promised to serve 512 alone.
    static String all(CirclePacker packer) {
        StringBuilder text = new StringBuilder();
        text.append(packer.count(0)).append(' ').append(packer.count(1)).append(' ').append(packer.closure());
        for (int c = 0; c < packer.count(0); c++) {
            text.append(' ').append(packer.radius(c));
        }
        for (int i = 0, c = packer.putAt(0); c >= 0; i++, c = packer.putAt(i)) {
            text.append(' ').append(c).append(':').append(packer.x(c)).append(',').append(packer.y(c));
        }
        return text.toString();
    }

    static void unchanged(String what, CirclePacker packer, Call call) {
        String before = all(packer);
        try {
            call.run();
        } catch (RuntimeException e) {
            same(what + " leaves", all(packer), before);
            return;
        }
        is(what + " throws", false, true);
    }

    static void wrongCircles(String what, CirclePacker packer, IntConsumer call) {
        for (int circle : new int[] {-1, packer.count(0), 12, Integer.MAX_VALUE, Integer.MIN_VALUE}) {
            index(what + " of circle " + circle, () -> call.accept(circle));
        }
    }

    static void wrongPairs(String what, CirclePacker packer, IntBinaryOperator call) {
        wrongCircles(what, packer, c -> call.applyAsInt(c, 0));
        wrongCircles(what, packer, c -> call.applyAsInt(0, c));
    }

    static void wrongFaces(String what, CirclePacker packer, IntConsumer call) {
        for (int face : new int[] {-1, packer.count(1), 20, Integer.MAX_VALUE, Integer.MIN_VALUE}) {
            index(what + " of face " + face, () -> call.accept(face));
        }
    }

    static void place(String what, CirclePacker packer, int circle, int x, int y) {
        is(what + ": x(" + circle + ")", packer.x(circle), x);
        is(what + ": y(" + circle + ")", packer.y(circle), y);
    }

    /** A packer that has read this text, which has this many statements and no error. */
    static CirclePacker reads(String text, int statements) {
        CirclePacker packer = new CirclePacker();
        Calls.give(packer, text);
        is("readNet() of " + text, packer.readNet(), statements);
        is("errorCode() of " + text, packer.errorCode(), 0);
        is("errorPosition() of " + text, packer.errorPosition(), -1);
        return packer;
    }

    static void isError(String text, CirclePacker packer, int code, int position) {
        is("errorCode() of " + text, packer.errorCode(), code);
        is("errorPosition() of " + text, packer.errorPosition(), position);
    }

    /** A text that is no net, with its error. */
    static void refuses(String text, int code, int position) {
        CirclePacker packer = new CirclePacker();
        Calls.give(packer, text);
        argument("readNet() of " + text, packer::readNet);
        isError(text, packer, code, position);
    }

    /** A text that is no script for this packer, with its error. */
    static void refusesScript(CirclePacker packer, String text, int code, int position) {
        Calls.give(packer, text);
        argument("runScript() of " + text, packer::runScript);
        isError(text, packer, code, position);
    }
}
