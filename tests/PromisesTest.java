/** The promises of the document, one by one: ordinary calls, the edges that it names, wrong inputs. */
public final class PromisesTest extends Checks {
    private static void netError(String text, int code, int position) {
        CirclePacker packer = net(TRIANGLE);
        packer.lay(0);
        String before = all(packer) + report(packer);
        Calls.give(packer, text);
        argument("readNet() of " + text, packer::readNet);
        is("errorCode() of " + text, packer.errorCode(), code);
        is("errorPosition() of " + text, packer.errorPosition(), position);
        same("what readNet() leaves of " + text, all(packer) + report(packer), before);
        argument("truncate(1) behind " + text, () -> packer.truncate(1));
        is("undo() behind " + text, packer.undo(), 0);
    }

    private static void scriptError(String text, int code, int position) {
        CirclePacker packer = net(RIGHT);
        packer.lay(0);
        String before = all(packer);
        Calls.give(packer, text);
        argument("runScript() of " + text, packer::runScript);
        is("errorCode() of " + text, packer.errorCode(), code);
        is("errorPosition() of " + text, packer.errorPosition(), position);
        same("what runScript() leaves of " + text, all(packer), before);
        argument("truncate(1) behind " + text, () -> packer.truncate(1));
        is("undo() behind " + text, packer.undo(), 0);
    }

    // ---- texts

    static void promise1() {
        CirclePacker packer = new CirclePacker();
        is("NONE", CirclePacker.NONE, -1);
        for (int what = 0; what < 6; what++) {
            is("count(" + what + ")", packer.count(what), 0);
        }
        is("parts()", packer.parts(), 0);
        is("truncate(0)", packer.truncate(0), 0);
        argument("truncate(1)", () -> packer.truncate(1));
        is("errorCode()", packer.errorCode(), 0);
        is("errorPosition()", packer.errorPosition(), -1);
        is("worst()", packer.worst(), -1);
        is("unrest()", packer.unrest(), 0);
        is("closure()", packer.closure(), 0);
        is("isSettled()", packer.isSettled(), true);
        is("greatestSlack()", packer.greatestSlack(2000000000), -1);
        is("putAt()", packer.putAt(0), -1);
        is("audit()", packer.audit(), -1);
        is("loosest()", packer.loosest(), -1);
        is("overlaps()", packer.overlaps(0), 0);
        is("flipped()", packer.flipped(), 0);
        is("at()", packer.at(0, 0), -1);
        is("undo()", packer.undo(), -1);
        index("reportByte()", () -> packer.reportByte(0));
        state("restore()", packer::restore);
        wrongCircles("radius()", packer, packer::radius);
        wrongFaces("lay()", packer, packer::lay);
        is("readNet()", packer.readNet(), 0);
        is("runScript()", packer.runScript(), 0);
    }

    static void promise2() {
        CirclePacker packer = new CirclePacker();
        for (int i = 1; i <= 40; i++) {
            is("feed()", packer.feed(0x20202020, 0x20202020, 0x20202020, 0x20202020, 0x20202020), 20 * i);
        }
        state("feed() beyond 800", () -> packer.feed(0, 0, 0, 0, 0));
        is("truncate(800) behind it", packer.truncate(800), 800);
        packer.truncate(781);
        state("feed() behind 781", () -> packer.feed(0, 0, 0, 0, 0));
        is("truncate(781) behind it", packer.truncate(781), 781);
        packer.truncate(780);
        is("feed() behind 780", packer.feed(0x20202020, 0x20202020, 0x20202020, 0x20202020, 0x2020203b), 800);
        argument("readNet()", packer::readNet);
        is("errorPosition()", packer.errorPosition(), 799);
        // "circle ab;circle ba;"
        is("feed()", packer.feed(0x63697263, 0x6c652061, 0x623b6369, 0x72636c65, 0x2062613b), 20);
        is("readNet()", packer.readNet(), 2);
        same("report", report(packer), "ab 1000\nba 1000\n");
        for (int place = 0; place < 20; place++) {
            int[] words = {0x20202020, 0x20202020, 0x20202020, 0x20202020, 0x20202020};
            words[place / 4] ^= 0xc0 << 8 * (3 - place % 4);
            packer.feed(words[0], words[1], words[2], words[3], words[4]);
            argument("readNet() of a byte above 127", packer::readNet);
            is("errorCode()", packer.errorCode(), 1);
            is("errorPosition()", packer.errorPosition(), place);
        }
    }

    static void promise3() {
        CirclePacker packer = new CirclePacker();
        argument("truncate(-1)", () -> packer.truncate(-1));
        argument("truncate(1)", () -> packer.truncate(1));
        packer.feed(0, 0, 0, 0, 0);
        argument("truncate(-1)", () -> packer.truncate(-1));
        argument("truncate(21)", () -> packer.truncate(21));
        argument("truncate(least)", () -> packer.truncate(Integer.MIN_VALUE));
        argument("truncate(greatest)", () -> packer.truncate(Integer.MAX_VALUE));
        is("truncate(20)", packer.truncate(20), 20);
        is("truncate(3)", packer.truncate(3), 3);
        argument("truncate(4)", () -> packer.truncate(4));
        is("feed()", packer.feed(0, 0, 0, 0, 0), 23);
        is("truncate(0)", packer.truncate(0), 0);
        is("readNet()", packer.readNet(), 0);
    }

    static void promise4() {
        CirclePacker packer = net(TRIANGLE);
        is("circles", packer.count(0), 3);
        argument("truncate(1) behind readNet()", () -> packer.truncate(1));
        packer.lay(0);
        packer.setRadius(0, 5);
        packer.save();
        packer.report();
        Calls.give(packer, " \n circle\nb radius 000007 ;scale 2000\n;circle a angle 90;circle zzzzzzzz ; ");
        is("statements", packer.readNet(), 4);
        is("circles", packer.count(0), 3);
        is("faces", packer.count(1), 0);
        is("the saved report stays", packer.reportByte(0), 'a');
        is("undo()", packer.undo(), -1);
        is("putAt(0)", packer.putAt(0), -1);
        is("isPut(0)", packer.isPut(0), false);
        same("report", report(packer), "b 7\na 2000\nzzzzzzzz 2000\n");
        is("the saved state stays", packer.restore(), 3);
        is("its face", packer.count(1), 1);
        is("its layout", packer.isPut(2), true);
        is("readNet() of nothing", packer.readNet(), 0);
        is("circles", packer.count(0), 0);
        is("readNet() of blanks", net(" \n\n ").count(0), 0);
        is("numbers and words side by side", net("circle a radius5;circle b angle5;scale7;").radius(1), 7);
        same("the greatest numbers", report(net("scale 100000;circle a;circle b radius 100000;circle c angle 1800;")),
                "a 100000\nb 100000\nc 100000\n");
        is("12 circles and 20 faces", net(ICOSAHEDRON).count(1), 20);
        netErrors();
        faceErrors();
        for (char c = 0; c < 256; c++) {
            boolean isBlank = c == ' ' || c == '\n';
            boolean isBehind = c == ';' || c >= '0' && c <= '9';
            CirclePacker one = new CirclePacker();
            Calls.give(one, "circle a radius 5" + c + ";" + c);
            int blank = c;
            if (isBlank) {
                is("readNet() with byte " + blank, one.readNet(), 1);
            } else {
                argument("readNet() with byte " + blank, one::readNet);
                is("errorCode() with byte " + blank, one.errorCode(), 1);
                is("errorPosition() with byte " + blank, one.errorPosition(), isBehind ? c == ';' ? 18 : 19 : 17);
                netError("circle a;" + c + ";circle b;", 1, 9);
                scriptError("turn;" + c + ";turn;", 1, 5);
            }
        }
    }

    private static void netErrors() {
        netError(";", 1, 0);
        netError("foo;", 1, 0);
        netError("sweep 1;", 1, 0);
        netError(" 5", 1, 1);
        netError("circle", 1, 6);
        netError("circle  \n", 1, 9);
        netError("circle a", 1, 8);
        netError("circle a ", 1, 9);
        netError("circle a;;", 1, 9);
        netError("circle a circle b;", 1, 9);
        netError("circle 5;", 1, 7);
        netError("circle a radius;", 1, 15);
        netError("circle a radius x;", 1, 16);
        netError("circle a radius 5 angle 5;", 1, 18);
        netError("circle a 5;", 1, 9);
        netError("circle a(", 1, 8);
        netError("circle a)", 1, 8);
        netError("circle a\t;", 1, 8);
        netError("circle A;", 1, 7);
        netError("circle aB;", 1, 8);
        netError("circle abcdefghi;", 1, 7);
        netError("circle a radius 0000001;", 1, 16);
        netError("circle a radius -1;", 1, 16);
        for (String word : Model.KEYWORDS) {
            netError("circle " + word + ";", 1, 7);
        }
        netError("circle a radius 0;", 2, 16);
        netError("circle a radius 100001;", 2, 16);
        netError("circle a angle 0;", 2, 15);
        netError("circle a angle 1801;", 2, 15);
        netError("scale 0;", 2, 6);
        netError("scale 100001;", 2, 6);
        netError("scale;", 1, 5);
        netError("scale a;", 1, 6);
        netError("scale 5 5;", 1, 8);
        netError("circle a;circle a;", 3, 16);
        netError("circle a;circle a", 3, 16);
        netError("scale 5; scale 6;", 3, 9);
        netError("scale 5; scale", 3, 9);
        StringBuilder circles = new StringBuilder();
        for (char c = 'a'; c <= 'l'; c++) {
            circles.append("circle ").append(c).append(';');
        }
        is("12 circles", net(circles.toString()).count(0), 12);
        netError(circles + "circle", 5, 108);
        netError(circles + "circle a;", 5, 108);
        netError(circles + "circles a;", 1, 108);
        netError(circles + "face a b c", 1, 118);
    }

    private static void faceErrors() {
        String abcd = "circle a;circle b;circle c;circle d;";
        netError(abcd + "face;", 1, 40);
        netError(abcd + "face a b;", 1, 44);
        netError(abcd + "face a b c d;", 1, 47);
        netError(abcd + "face a 5 c;", 1, 43);
        netError(abcd + "face a b lay;", 1, 45);
        netError(abcd + "face x b c;", 4, 41);
        netError(abcd + "face a x c;", 4, 43);
        netError(abcd + "face a b x;", 4, 45);
        netError(abcd + "face a b e;circle e;", 4, 45);
        netError(abcd + "face x x x;", 4, 41);
        netError(abcd + "face a a b;", 3, 43);
        netError(abcd + "face a b a;", 3, 45);
        netError(abcd + "face a b b;", 3, 45);
        netError(abcd + "face a b c;face a b d;", 3, 54);
        netError(abcd + "face a b c;face b c d;", 3, 54);
        netError(abcd + "face a b c;face c a d;", 3, 54);
        netError(abcd + "face a b c;face d a b;", 3, 56);
        netError(abcd + "face a b c;face b d a;", 3, 56);
        netError(abcd + "face a b c;face a b", 3, 54);
        is("both sides of a triangle", net(abcd + "face a b c;face c b a;").count(3), 3);
        netError(ICOSAHEDRON + "face", 5, ICOSAHEDRON.length());
        netError(ICOSAHEDRON + "face x", 5, ICOSAHEDRON.length());
        netError(ICOSAHEDRON + "circle", 5, ICOSAHEDRON.length());
        String six = "circle a;circle b;circle c;circle d;circle e;circle f;circle g;";
        netError(six + "face a b c;face a d e; ", 6, 86);
        netError(six + "face a b c;face a c b;face a d e;", 6, 96);
        netError(six + "face a b c;face a c d;face a d b;face a e f;", 6, 107);
        netError(six + "face a b c;face a c d;face a d b;face a e f;face a f g;face a g e;", 6, 129);
        netError(six + "face a b c;face a d e;face", 1, 89);
        is("the gap closed", net(six + "face a b c;face a d e;face a c d;").neighbors(0), 4);
    }

    static void promise5() {
        CirclePacker packer = net(WHEEL);
        is("runScript() of nothing", packer.runScript(), 0);
        is("undo() behind nothing", packer.undo(), -1);
        is("runScript()", script(packer, " set p 5 ;\nlay 5;turn;"), 3);
        argument("truncate(1) behind runScript()", () -> packer.truncate(1));
        is("radius", packer.radius(1), 5);
        is("the turned layout", packer.y(6), 2000);
        is("undo()", packer.undo(), 0);
        is("radius", packer.radius(1), 1000);
        is("isPut()", packer.isPut(0), false);
        is("set", script(packer, "set o 999999;set q 1;"), 2);
        is("radius", packer.radius(0), 999999);
        is("solve", script(packer, "solve o;"), 1);
        is("radius", packer.radius(0), packer.solved(0));
        is("a fixed circle cannot be solved", script(packer, "set p 7;solve p;set p 8;"), 1);
        is("radius", packer.radius(1), 7);
        is("a circle without a face cannot be solved", script(net("circle a;circle b radius 5;"),
                "set a 7;solve a;set a 8;"), 1);
        is("a face that does not exist", script(packer, "lay 5;lay 6;set p 9;"), 1);
        is("radius", packer.radius(1), 7);
        is("a face of 6 digits", script(packer, "lay 999999;"), 0);
        CirclePacker bare = net(WHEEL);
        is("turn without places", script(bare, "turn;set p 9;"), 0);
        is("undo()", bare.undo(), -1);
        is("turn with places", script(bare, "lay 0;repeat 3(turn;);turn;turn;"), 6);
        is("a place turned 5 times", bare.y(1), 2000);
        sweepsOfScripts();
        repeats();
        scriptErrors();
    }

    private static void sweepsOfScripts() {
        CirclePacker by = net(PAIR);
        CirclePacker one = net(PAIR);
        is("sweep 3", script(by, "set c 900;sweep 3;"), 2);
        one.setRadius(2, 900);
        one.sweep();
        one.sweep();
        one.sweep();
        same("the radii", report(by), report(one));
        is("undo()", by.undo(), 0);
        is("radius", by.radius(2), 700);
        CirclePacker still = net("circle a angle 57;circle b radius 1000;circle c radius 1000;face a b c;");
        long before = still.unrest();
        int thousands = (int) (before / 1000);
        is("calm just within", script(still, "calm " + (thousands + 1) + ";"), 1);
        is("radius", still.radius(0), 1000);
        is("calm just beyond", script(still, "calm " + thousands + ";"), 1);
        is("it was solved", still.radius(0), still.solved(0));
        is("a radius that was changed", still.radius(0) != 1000, true);
        String even = "circle a angle 55;circle b radius 1000;circle c radius 845;face a b c;";
        is("unrest() of whole thousands", net(even).unrest(), 38038000);
        CirclePacker equal = net(even);
        is("calm that is just met", script(equal, "calm 38038;"), 1);
        is("nothing was swept", equal.radius(0), 1000);
        is("calm that is just not met", script(equal, "calm 38037;"), 1);
        is("it was swept", equal.radius(0), equal.solved(0));
        is("calm that is met", script(net(EXACT), "calm 0;"), 1);
        // The angle that is asked for cannot be had: the sweeps of the calm stay, and nothing was done.
        CirclePacker never = net("circle a angle 360;circle b radius 1000;circle c radius 1000;face a b c;");
        is("calm that cannot be had", script(never, "calm 0;set b 5;"), 0);
        is("its sweeps stay", never.radius(0), 1);
        is("radius", never.radius(1), 1000);
        is("undo()", never.undo(), -1);
        CirclePacker six = net("circle a;circle b angle 100;circle c angle 100;circle d radius 1000;circle e radius 900;"
                + "face a b c;face a c d;face a d e;face a e b;");
        CirclePacker slow = net("circle a;circle b angle 100;circle c angle 100;circle d radius 1000;circle e radius 900;"
                + "face a b c;face a c d;face a d e;face a e b;");
        is("calm makes 6 sweeps at most", script(six, "calm 0;"), 0);
        is("settle(6)", slow.settle(6), 6);
        same("the radii", report(six), report(slow));
        is("a seventh one would change some", slow.isSettled(), false);
    }

    private static void repeats() {
        CirclePacker packer = net(WHEEL);
        packer.lay(0);
        is("repeat", script(packer, "repeat 3(turn;);"), 3);
        is("y", packer.y(1), -2000);
        is("repeats within one", script(packer, "repeat 2(repeat 2(turn;);turn;repeat 3(););turn;"), 7);
        is("repeats beside one another", script(packer, "repeat 2(turn;);repeat 10(turn;);"), 12);
        is("empty repeats", script(packer, "repeat 10(repeat 10(););repeat 10(repeat 10(););"), 0);
        is("20 commands", script(packer, "repeat 10(turn;turn;);set o 5;"), 20);
        is("nothing behind them", packer.radius(0), 1000);
        is("20 commands", script(packer, "repeat 10(repeat 10(turn;););"), 20);
        is("a repeat that ends early", script(packer, "repeat 5(set o 3;repeat 2(turn;solve p;);set o 4;);set o 5;"), 2);
        is("radius", packer.radius(0), 3);
        is("calm is not tried behind 20", script(packer, "repeat 10(turn;turn;);calm 0;"), 20);
        is("radius", packer.radius(0), 3);
        is("30 commands", script(packer, "turn;".repeat(30)), 20);
        is("undo()", packer.undo(), 4);
        is("15 repeats", script(packer, "repeat 1(turn;);".repeat(15)), 15);
        is("29 repeats and a command", script(packer, "repeat 1();".repeat(29) + "turn;"), 1);
        is("3080 empty rounds", script(packer, "repeat 10(" + "repeat 10();".repeat(28) + ");turn;"), 1);
    }

    private static void scriptErrors() {
        scriptError("foo;", 1, 0);
        scriptError("circle a;", 1, 0);
        scriptError("a;", 1, 0);
        scriptError("turn", 1, 4);
        scriptError("turn ", 1, 5);
        scriptError("turn a;", 1, 5);
        scriptError("turn;)", 1, 5);
        scriptError("turn;;", 1, 5);
        scriptError("set a 5;solve;", 1, 13);
        scriptError("solve 5;", 1, 6);
        scriptError("solve turn;", 1, 6);
        scriptError("solve face;", 1, 6);
        scriptError("solve a 5;", 1, 8);
        scriptError("set a;", 1, 5);
        scriptError("set 5 a;", 1, 4);
        scriptError("set a 1000000;", 1, 6);
        scriptError("set a 0;", 2, 6);
        scriptError("sweep;", 1, 5);
        scriptError("sweep 0;", 2, 6);
        scriptError("sweep 7;", 2, 6);
        scriptError("lay;", 1, 3);
        scriptError("lay a;", 1, 4);
        scriptError("lay 0000000;", 1, 4);
        scriptError("calm;", 1, 4);
        scriptError("calm 1000000;", 1, 5);
        scriptError("solve x;", 4, 6);
        scriptError("set x 0;", 4, 4);
        scriptError("repeat(", 1, 6);
        scriptError("repeat 0();", 2, 7);
        scriptError("repeat 11();", 2, 7);
        scriptError("repeat 2;", 1, 8);
        scriptError("repeat 2(", 1, 9);
        scriptError("repeat 2(turn;", 1, 14);
        scriptError("repeat 2(turn);", 1, 13);
        scriptError("repeat 2()", 1, 10);
        scriptError("repeat 2());", 1, 10);
        scriptError("repeat 2(;);", 1, 9);
        scriptError("repeat 2(repeat 2(););repeat 2(repeat 2(turn;repeat 2();););", 3, 45);
        scriptError("turn;turn;A", 1, 10);
        scriptError("turn;".repeat(30) + "turn", 5, 150);
        scriptError("turn;".repeat(30) + "foo", 1, 150);
        scriptError("turn;".repeat(30) + ")", 1, 150);
        scriptError("repeat 1(" + "turn;".repeat(30) + ");", 5, 154);
        scriptError("repeat 1();".repeat(30) + "repeat", 5, 330);
        scriptError("turn;".repeat(28) + "repeat 1(repeat 1(repeat", 3, 158);
        scriptError("turn;".repeat(28) + "repeat 1(repeat 1(turn;", 5, 158);
        is("30 commands with repeats", script(net(RIGHT), "repeat 1(" + "turn;".repeat(29) + ");"), 0);
    }

    static void promise6() {
        CirclePacker packer = new CirclePacker();
        is("errorCode()", packer.errorCode(), 0);
        Calls.give(packer, "scale 5;scale 6;");
        argument("readNet()", packer::readNet);
        is("errorCode()", packer.errorCode(), 3);
        packer.save();
        packer.restore();
        packer.undo();
        packer.sweep();
        is("errorCode() behind other calls", packer.errorCode(), 3);
        packer.runScript();
        is("errorCode() behind a script", packer.errorCode(), 0);
        Calls.give(packer, "solve x;");
        argument("runScript()", packer::runScript);
        is("errorCode()", packer.errorCode(), 4);
        packer.readNet();
        is("errorCode() behind a net", packer.errorCode(), 0);
        Calls.give(packer, "turn;");
        is("a command that cannot be done", packer.runScript(), 0);
        is("errorCode()", packer.errorCode(), 0);
    }

    static void promise7() {
        CirclePacker packer = new CirclePacker();
        is("errorPosition()", packer.errorPosition(), -1);
        Calls.give(packer, "scale 5;scale 6;");
        argument("readNet()", packer::readNet);
        is("errorPosition()", packer.errorPosition(), 8);
        packer.report();
        is("errorPosition() behind other calls", packer.errorPosition(), 8);
        packer.runScript();
        is("errorPosition() behind a script", packer.errorPosition(), -1);
        Calls.give(packer, "solve x;");
        argument("runScript()", packer::runScript);
        is("errorPosition()", packer.errorPosition(), 6);
        packer.readNet();
        is("errorPosition() behind a net", packer.errorPosition(), -1);
        Calls.give(packer, "face");
        argument("readNet()", packer::readNet);
        is("errorPosition() at the end", packer.errorPosition(), 4);
    }

    // ---- the net

    private static void counts(String text, int... due) {
        CirclePacker packer = net(text);
        for (int what = 0; what < due.length; what++) {
            is("count(" + what + ") of " + text, packer.count(what), due[what]);
        }
    }

    static void promise8() {
        counts(TRIANGLE + "circle d;", 4, 1, 3, 0, 3, 1);
        counts(WHEEL, 7, 6, 12, 1, 6, 1);
        counts(TETRAHEDRON, 4, 4, 6, 4, 0, 4);
        counts(ICOSAHEDRON, 12, 20, 30, 12, 0, 12);
        counts(PAIR, 4, 2, 5, 0, 4, 2);
        counts("circle a;circle b;circle c;face a b c;face a c b;", 3, 2, 3, 3, 0, 3);
        CirclePacker packer = net(WHEEL);
        argument("count(-1)", () -> packer.count(-1));
        argument("count(6)", () -> packer.count(6));
        argument("count(greatest)", () -> packer.count(Integer.MAX_VALUE));
    }

    static void promise9() {
        CirclePacker packer = net(WHEEL + "circle v;");
        is("kind of an inner circle", packer.kind(0), 0);
        is("kind of an outer circle", packer.kind(1), 1);
        is("kind of an outer circle", packer.kind(6), 1);
        is("kind of a circle without neighbors", packer.kind(7), 2);
        wrongCircles("kind()", packer, packer::kind);
    }

    static void promise10() {
        CirclePacker packer = net("circle a angle 1800;circle b angle 1;circle c;circle d radius 360;");
        is("degrees", packer.degrees(0), 1800);
        is("degrees", packer.degrees(1), 1);
        is("degrees", packer.degrees(2), 360);
        is("degrees", packer.degrees(3), 0);
        packer.setRadius(0, 5);
        is("degrees", packer.degrees(0), 1800);
        wrongCircles("degrees()", packer, packer::degrees);
    }

    static void promise11() {
        CirclePacker packer = net(WHEEL + "circle v;");
        is("neighbors", packer.neighbors(0), 6);
        is("neighbors", packer.neighbors(1), 3);
        is("neighbors", packer.neighbors(7), 0);
        is("neighbors", net(TRIANGLE).neighbors(2), 2);
        is("neighbors", net(ICOSAHEDRON).neighbors(11), 5);
        wrongCircles("neighbors()", packer, packer::neighbors);
    }

    static void promise12() {
        CirclePacker packer = net(WHEEL + "circle v;");
        for (int i = 0; i < 6; i++) {
            is("neighbor(0, " + i + ")", packer.neighbor(0, i), 1 + i);
        }
        int[] row = {3, 0, 1};
        for (int i = 0; i < 3; i++) {
            is("neighbor(2, " + i + ")", packer.neighbor(2, i), row[i]);
        }
        is("neighbor(0, 6)", packer.neighbor(0, 6), -1);
        is("neighbor(0, -1)", packer.neighbor(0, -1), -1);
        is("neighbor(2, 3)", packer.neighbor(2, 3), -1);
        is("neighbor(2, greatest)", packer.neighbor(2, Integer.MAX_VALUE), -1);
        is("neighbor(2, least)", packer.neighbor(2, Integer.MIN_VALUE), -1);
        is("neighbor(7, 0)", packer.neighbor(7, 0), -1);
        // A ring the other way round: 3 2 1 becomes 1 3 2.
        CirclePacker back = net("circle o;circle p;circle q;circle r;face o r q;face o q p;face p r o;");
        int[] ring = {1, 3, 2};
        for (int i = 0; i < 3; i++) {
            is("neighbor(0, " + i + ") backwards", back.neighbor(0, i), ring[i]);
        }
        int[] open = {0, 2};
        CirclePacker both = net("circle a;circle b;circle c;face a b c;face a c b;");
        for (int i = 0; i < 2; i++) {
            is("neighbor(1, " + i + ") of two faces", both.neighbor(1, i), open[i]);
        }
        wrongPairs("neighbor()", packer, (c, d) -> d == 0 ? packer.neighbor(c, 0) : packer.neighbor(d, 99));
    }

    static void promise13() {
        CirclePacker packer = net("circle a;circle b;circle c;circle d;face b c a;face d a c;");
        int[] due = {1, 2, 0, 3, 0, 2};
        for (int i = 0; i < 6; i++) {
            is("corner()", packer.corner(i / 3, i % 3), due[i]);
        }
        argument("corner(0, 3)", () -> packer.corner(0, 3));
        argument("corner(1, -1)", () -> packer.corner(1, -1));
        wrongFaces("corner()", packer, f -> packer.corner(f, 0));
        wrongFaces("corner() with both wrong", packer, f -> packer.corner(f, 3));
    }

    static void promise14() {
        CirclePacker packer = net(WHEEL + "circle v;");
        is("faceAt(0, 1)", packer.faceAt(0, 1), 0);
        is("faceAt(1, 0)", packer.faceAt(1, 0), 5);
        is("faceAt(1, 2)", packer.faceAt(1, 2), 0);
        is("faceAt(2, 1)", packer.faceAt(2, 1), -1);
        is("faceAt(2, 0)", packer.faceAt(2, 0), 0);
        is("faceAt(0, 2)", packer.faceAt(0, 2), 1);
        is("faceAt(1, 4)", packer.faceAt(1, 4), -1);
        is("faceAt(0, 0)", packer.faceAt(0, 0), -1);
        is("faceAt(7, 0)", packer.faceAt(7, 0), -1);
        wrongPairs("faceAt()", packer, packer::faceAt);
    }

    static void promise15() {
        CirclePacker packer = net("circle a;circle b;circle c;circle d;circle e;circle f;"
                + "face a b c;face b d c;face c d e;");
        int[] due = {0, 1, 1, 2, 2, -1};
        for (int c = 0; c < 6; c++) {
            is("steps(0, " + c + ")", packer.steps(0, c), due[c]);
            is("steps(" + c + ", 0)", packer.steps(c, 0), due[c]);
        }
        is("steps(5, 5)", packer.steps(5, 5), 0);
        packer.setRadius(2, 1000000);
        is("steps() do not weigh radii", packer.steps(0, 4), 2);
        wrongPairs("steps()", packer, packer::steps);
        CirclePacker strip = net("circle a;circle b;circle c;circle d;circle e;circle f;circle g;circle h;circle i;"
                + "circle j;circle k;circle l;face l k j;face j k i;face j i h;face h i g;face h g f;face f g e;"
                + "face f e d;face d e c;face d c b;face b c a;");
        is("steps through a strip", strip.steps(0, 11), 6);
        is("steps back", strip.steps(11, 0), 6);
    }

    static void promise16() {
        is("parts()", net(WHEEL).parts(), 1);
        is("parts()", net(WHEEL + "circle v;circle w;").parts(), 3);
        is("parts()", net("circle a;circle b;circle c;circle d;circle e;circle f;face a c e;face f d b;").parts(), 2);
        is("parts()", net("circle a;circle b;circle c;circle d;circle e;face a c e;face e c d;").parts(), 2);
        is("parts()", net("").parts(), 0);
        is("parts()", net("circle a;").parts(), 1);
    }

    static void promise17() {
        CirclePacker packer = net(WHEEL + "circle v;");
        int[] due = {1, 6, 5, 4, 3, 2, -1};
        for (int i = 0; i < 7; i++) {
            is("border(1, " + i + ")", packer.border(1, i), due[i]);
        }
        is("border(4, 5)", packer.border(4, 5), 5);
        is("border(4, -1)", packer.border(4, -1), -1);
        is("border(4, greatest)", packer.border(4, Integer.MAX_VALUE), -1);
        is("border(0, 0)", packer.border(0, 0), -1);
        is("border(7, 0)", packer.border(7, 0), -1);
        // A band has two borders.
        CirclePacker band = net("circle a;circle b;circle c;circle d;circle e;circle f;"
                + "face a d e;face a e b;face b e f;face b f c;face c f d;face c d a;");
        int[] inner = {0, 1, 2, -1};
        int[] outer = {3, 5, 4, -1};
        for (int i = 0; i < 4; i++) {
            is("border(0, " + i + ") of a band", band.border(0, i), inner[i]);
            is("border(3, " + i + ") of a band", band.border(3, i), outer[i]);
        }
        wrongPairs("border()", packer, (c, d) -> d == 0 ? packer.border(c, 0) : packer.border(d, 99));
    }

    static void promise18() {
        CirclePacker packer = net(WHEEL + "circle v;");
        is("perimeter(1)", packer.perimeter(1), 12000);
        packer.setRadius(3, 1000000);
        is("perimeter(1)", packer.perimeter(1), 2 * 1005000);
        is("perimeter(0)", packer.perimeter(0), 0);
        is("perimeter(7)", packer.perimeter(7), 0);
        is("perimeter(0)", net(RIGHT).perimeter(0), 1200);
        CirclePacker band = net("circle a;circle b;circle c;circle d radius 2000;circle e;circle f;"
                + "face a d e;face a e b;face b e f;face b f c;face c f d;face c d a;");
        is("perimeter(0) of a band", band.perimeter(0), 6000);
        is("perimeter(5) of a band", band.perimeter(5), 8000);
        wrongCircles("perimeter()", packer, c -> packer.perimeter(c));
    }

    static void promise19() {
        CirclePacker packer = net(WHEEL + "circle v;");
        is("distance(1, 4)", packer.distance(1, 4), 4000);
        is("distance(1, 1)", packer.distance(1, 1), 0);
        is("distance(1, 7)", packer.distance(1, 7), -1);
        is("distance(7, 7)", packer.distance(7, 7), 0);
        packer.setRadius(0, 1000000);
        is("distance(1, 4) around", packer.distance(1, 4), 6000);
        is("distance(1, 0)", packer.distance(1, 0), 1001000);
        packer.setRadius(2, 10);
        packer.setRadius(3, 20);
        is("distance(1, 4) around", packer.distance(1, 4), 1010 + 30 + 1020);
        is("distance(4, 1) around", packer.distance(4, 1), 1010 + 30 + 1020);
        wrongPairs("distance()", packer, (c, d) -> (int) packer.distance(c, d));
    }

    // ---- angles

    static void promise20() {
        CirclePacker packer = net("circle a radius 1;circle b;circle c radius 100000;");
        is("radius(0)", packer.radius(0), 1);
        is("radius(1)", packer.radius(1), 1000);
        is("radius(2)", packer.radius(2), 100000);
        packer.setRadius(1, 77);
        is("radius(1)", packer.radius(1), 77);
        wrongCircles("radius()", packer, packer::radius);
    }

    static void promise21() {
        CirclePacker packer = net(RIGHT);
        is("angle(0, 0)", packer.angle(0, 0), 1570758656L);
        is("angle(0, 1)", packer.angle(0, 1), 927289088L);
        is("angle(0, 2)", packer.angle(0, 2), 643504000L);
        is("angle(0, 0) of equal radii", net(TRIANGLE).angle(0, 0), 1047189376L);
        // The order of the neighbors tells in the rounding.
        is("angle with 10 before 28", net("circle a radius 1;circle b radius 10;circle c radius 28;face a b c;")
                .angle(0, 0), 2427048384L);
        is("angle with 28 before 10", net("circle a radius 1;circle b radius 10;circle c radius 28;face a c b;")
                .angle(0, 0), 2427046720L);
        is("corner 2 is followed by corner 0", net("circle a radius 1;circle b radius 10;circle c radius 28;face b c a;")
                .angle(0, 2), 2427048384L);
        packer.setRadius(0, 1000000);
        packer.setRadius(1, 1);
        packer.setRadius(2, 2);
        is("a smallest angle", packer.angle(0, 0), 0);
        packer.setRadius(0, 1);
        packer.setRadius(1, 1000000);
        packer.setRadius(2, 999999);
        is("a greatest angle", packer.angle(0, 0), 3138450624L);
        argument("angle(0, 3)", () -> packer.angle(0, 3));
        argument("angle(0, -1)", () -> packer.angle(0, -1));
        wrongFaces("angle()", packer, f -> packer.angle(f, 0));
        wrongFaces("angle() with both wrong", packer, f -> packer.angle(f, 3));
    }

    static void promise22() {
        CirclePacker packer = net(WHEEL + "circle v;");
        is("sum(0)", packer.sum(0), 6283136256L);
        is("sum(1)", packer.sum(1), 2094378752L);
        is("sum(7)", packer.sum(7), 0);
        is("sum(0) of two faces", net("circle a radius 100;circle b radius 200;circle c radius 300;"
                + "face a b c;face a c b;").sum(0), 2 * 1570758656L);
        wrongCircles("sum()", packer, c -> packer.sum(c));
    }

    static void promise23() {
        CirclePacker packer = net(WHEEL + "circle v angle 1;circle w angle 1800;");
        is("defect(0)", packer.defect(0), 49051);
        is("defect(7)", packer.defect(7), 17453292);
        is("defect(8)", packer.defect(8), 31415926535L);
        is("a defect of 0", net(EXACT).defect(0), 0);
        state("defect(1)", () -> packer.defect(1));
        packer.setRadius(0, 900);
        is("a defect below 0", packer.defect(0), 6283185307L - packer.sum(0));
        is("it is below 0", packer.defect(0) < 0, true);
        wrongCircles("defect()", packer, c -> packer.defect(c));
    }

    static void promise24() {
        CirclePacker packer = net(WHEEL + "circle v angle 1;circle w angle 2;circle x angle 2;");
        is("worst()", packer.worst(), 8);
        packer.setRadius(0, 900);
        is("worst() with a defect below 0", packer.worst(), 0);
        is("worst() of fixed ones", net(TRIANGLE).worst(), -1);
        is("worst() of one", net("circle a;").worst(), 0);
        CirclePacker equal = net("circle a angle 5;circle b angle 5;");
        is("worst() of equal ones", equal.worst(), 0);
        is("worst() of a defect of 0", net(EXACT).worst(), 0);
    }

    static void promise25() {
        CirclePacker packer = net(WHEEL + "circle v angle 1;");
        is("unrest()", packer.unrest(), 49051 + 17453292);
        packer.setRadius(0, 900);
        is("unrest() with a defect below 0", packer.unrest(), packer.sum(0) - 6283185307L + 17453292);
        is("unrest() of fixed ones", net(TRIANGLE).unrest(), 0);
    }

    static void promise26() {
        is("closure()", net(TRIANGLE + "circle d;").closure(), -24525);
        is("closure()", net(RIGHT).closure(), 1570758656L + 927289088L + 643504000L - 3141592653L);
        CirclePacker packer = net(WHEEL);
        is("closure()", packer.closure(), 6283136256L + 6 * 2094378752L - 6 * 3141592653L);
        is("closure()", new CirclePacker().closure(), 0);
    }

    // ---- radii

    static void promise27() {
        CirclePacker packer = net(WHEEL);
        is("setRadius(0, 7)", packer.setRadius(0, 7), 1000);
        is("setRadius(0, 1000000)", packer.setRadius(0, 1000000), 7);
        is("setRadius(0, 1)", packer.setRadius(0, 1), 1000000);
        is("setRadius() of a fixed one", packer.setRadius(1, 5), 1000);
        is("radius(1)", packer.radius(1), 5);
        is("radius(2)", packer.radius(2), 1000);
        unchanged("setRadius(0, 0)", packer, () -> packer.setRadius(0, 0));
        unchanged("setRadius(0, 1000001)", packer, () -> packer.setRadius(0, 1000001));
        argument("setRadius(0, 0)", () -> packer.setRadius(0, 0));
        argument("setRadius(0, 1000001)", () -> packer.setRadius(0, 1000001));
        argument("setRadius(0, least)", () -> packer.setRadius(0, Integer.MIN_VALUE));
        wrongCircles("setRadius()", packer, c -> packer.setRadius(c, 5));
        wrongCircles("setRadius() with both wrong", packer, c -> packer.setRadius(c, 0));
        is("undo() of 4", packer.undo(), 3);
        is("radius(1)", packer.radius(1), 1000);
    }

    static void promise28() {
        CirclePacker packer = net(WHEEL + "circle v;");
        is("solve(0)", packer.solve(0), 999);
        is("radius(0)", packer.radius(0), 999);
        is("it is enough", packer.sum(0) >= 6283185307L, true);
        packer.setRadius(0, 1000);
        is("the next one is not", packer.sum(0) < 6283185307L, true);
        packer.setRadius(0, 1);
        is("solve(0) from below", packer.solve(0), 999);
        packer.setRadius(0, 1000000);
        is("solve(0) from above", packer.solve(0), 999);
        is("undo()", packer.undo(), 4);
        is("radius(0)", packer.radius(0), 1000000);
        unchanged("solve(1)", packer, () -> packer.solve(1));
        state("solve() of a fixed one", () -> packer.solve(1));
        state("solve() without a face", () -> packer.solve(7));
        wrongCircles("solve()", packer, packer::solve);
        is("a sum that is the target is enough", net(EXACT).solve(0), 100);
        // No radius is enough, and each is enough.
        is("solve() with too great an angle", net("circle a angle 180;circle b;circle c;face a b c;").solve(0), 1);
        CirclePacker any = net("circle a angle 1;circle b;circle c;face a b c;");
        any.setRadius(1, 1000000);
        any.setRadius(2, 1000000);
        is("solve() with a small angle", any.solve(0), 1000000);
        is("solve() again", any.solve(0), 1000000);
    }

    static void promise29() {
        CirclePacker packer = net(WHEEL + "circle v;");
        is("solved(0)", packer.solved(0), 999);
        is("radius(0)", packer.radius(0), 1000);
        is("undo()", packer.undo(), -1);
        is("solved() of a fixed one", packer.solved(1), -1);
        is("solved() without a face", packer.solved(7), -1);
        is("solved() with too great an angle", net("circle a angle 180;circle b;circle c;face a b c;").solved(0), 1);
        wrongCircles("solved()", packer, packer::solved);
    }

    static void promise30() {
        CirclePacker packer = net(PAIR);
        int a = packer.solved(0);
        int d = packer.solved(3);
        is("sweep()", packer.sweep(), 2);
        is("radius(0)", packer.radius(0), a);
        is("radius(3)", packer.radius(3), d);
        is("sweep()", packer.sweep(), 0);
        is("undo()", packer.undo(), 1);
        is("undo()", packer.undo(), 0);
        is("radius(0)", packer.radius(0), 1000);
        is("sweep() of fixed ones", net(TRIANGLE).sweep(), 0);
        // The second circle is solved with the new radius of the first one.
        String text = "circle a angle 50;circle b angle 40;circle c radius 1000;face a b c;";
        CirclePacker swept = net(text);
        CirclePacker single = net(text);
        is("sweep()", swept.sweep(), 2);
        single.solve(0);
        single.solve(1);
        same("radii", report(swept), report(single));
        CirclePacker other = net(text);
        other.solve(1);
        other.solve(0);
        is("the order tells", report(swept).equals(report(other)), false);
    }

    static void promise31() {
        String text = "circle a angle 50;circle b angle 40;circle c radius 1000;face a b c;";
        CirclePacker packer = net(text);
        CirclePacker other = net(text);
        is("settle(1)", packer.settle(1), 1);
        other.sweep();
        same("radii", report(packer), report(other));
        is("settle(2)", packer.settle(2), 2);
        other.sweep();
        other.sweep();
        same("radii", report(packer), report(other));
        int more = 1;
        while (other.sweep() > 0 && more < 20) {
            more++;
        }
        is("settle(20)", packer.settle(20), more);
        same("radii", report(packer), report(other));
        is("undo()", packer.undo(), 2);
        is("undo()", packer.undo(), 1);
        is("undo()", packer.undo(), 0);
        is("radius(0)", packer.radius(0), 1000);
        CirclePacker fixed = net(TRIANGLE);
        is("settle(20) of fixed ones", fixed.settle(20), 1);
        CirclePacker pair = net(PAIR);
        is("settle(20) counts the last one", pair.settle(20), 2);
        argument("settle(0)", () -> packer.settle(0));
        argument("settle(21)", () -> packer.settle(21));
        argument("settle(-1)", () -> packer.settle(-1));
        unchanged("settle(0)", packer, () -> packer.settle(0));
    }

    static void promise32() {
        CirclePacker packer = net(PAIR);
        is("isSettled()", packer.isSettled(), false);
        is("undo()", packer.undo(), -1);
        packer.solve(0);
        is("isSettled()", packer.isSettled(), false);
        packer.solve(3);
        is("isSettled()", packer.isSettled(), true);
        packer.setRadius(1, 501);
        is("isSettled()", packer.isSettled(), packer.solved(0) == packer.radius(0) && packer.solved(3) == packer.radius(3));
        packer.setRadius(1, 600);
        is("isSettled()", packer.isSettled(), false);
        is("isSettled() of fixed ones", net(TRIANGLE).isSettled(), true);
        is("isSettled() without faces", net("circle a;").isSettled(), true);
    }

    // ---- bounds

    // The sum of a circle of the right triangle with these radii.
    private static long sumWith(int circle, int a, int b, int c) {
        CirclePacker packer = net(RIGHT);
        packer.setRadius(0, a);
        packer.setRadius(1, b);
        packer.setRadius(2, c);
        return packer.sum(circle);
    }

    static void promise33() {
        CirclePacker packer = net(RIGHT + "circle d;");
        is("lowSum(0, 0)", packer.lowSum(0, 0), 1570758656L);
        is("lowSum(0, 10)", packer.lowSum(0, 10), sumWith(0, 110, 190, 290));
        is("lowSum(1, 99)", packer.lowSum(1, 99), sumWith(1, 1, 299, 201));
        is("lowSum(1, 100)", packer.lowSum(1, 100), sumWith(1, 1, 300, 200));
        is("lowSum(1, 101)", packer.lowSum(1, 101), sumWith(1, 1, 301, 199));
        is("lowSum(2, 1000)", packer.lowSum(2, 1000), sumWith(2, 1, 1, 1300));
        is("lowSum(3, 5)", packer.lowSum(3, 5), 0);
        packer.setRadius(0, 1000000);
        is("lowSum() above the greatest radius", packer.lowSum(0, 1000), Model.angle(1001000, 1, 1));
        argument("lowSum(0, -1)", () -> packer.lowSum(0, -1));
        argument("lowSum(0, 1001)", () -> packer.lowSum(0, 1001));
        wrongCircles("lowSum()", packer, c -> packer.lowSum(c, 0));
        wrongCircles("lowSum() with both wrong", packer, c -> packer.lowSum(c, -1));
    }

    static void promise34() {
        CirclePacker packer = net(RIGHT + "circle d;");
        is("highSum(0, 0)", packer.highSum(0, 0), 1570758656L);
        is("highSum(0, 10)", packer.highSum(0, 10), sumWith(0, 90, 210, 310));
        is("highSum(0, 99)", packer.highSum(0, 99), sumWith(0, 1, 299, 399));
        is("highSum(0, 101)", packer.highSum(0, 101), sumWith(0, 1, 301, 401));
        is("highSum(2, 1000)", packer.highSum(2, 1000), sumWith(2, 1100, 1200, 1));
        is("highSum(3, 5)", packer.highSum(3, 5), 0);
        packer.setRadius(1, 1000000);
        packer.setRadius(2, 1000000);
        is("highSum() above the greatest radius", packer.highSum(0, 1000), Model.angle(1, 1001000, 1001000));
        argument("highSum(0, -1)", () -> packer.highSum(0, -1));
        argument("highSum(0, 1001)", () -> packer.highSum(0, 1001));
        wrongCircles("highSum()", packer, c -> packer.highSum(c, 0));
        wrongCircles("highSum() with both wrong", packer, c -> packer.highSum(c, 1001));
    }

    static void promise35() {
        CirclePacker packer = net(WHEEL);
        is("isCertain(0, 0, 49051)", packer.isCertain(0, 0, 49051), true);
        is("isCertain(0, 0, 49050)", packer.isCertain(0, 0, 49050), false);
        is("isCertain(0, 0, 2000000000)", packer.isCertain(0, 0, 2000000000), true);
        is("isCertain() of a fixed one", packer.isCertain(1, 0, 2000000000), false);
        long low = 6283185307L - packer.lowSum(0, 5);
        long high = packer.highSum(0, 5) - 6283185307L;
        int bound = (int) Math.max(low, high);
        is("isCertain() just within", packer.isCertain(0, 5, bound), true);
        is("isCertain() just beyond", packer.isCertain(0, 5, bound - 1), false);
        packer.setRadius(0, 990);
        int above = (int) (packer.highSum(0, 0) - 6283185307L);
        is("it is above", above > 0, true);
        is("isCertain() from above", packer.isCertain(0, 0, above), true);
        is("isCertain() from above", packer.isCertain(0, 0, above - 1), false);
        argument("isCertain(0, -1, 0)", () -> packer.isCertain(0, -1, 0));
        argument("isCertain(0, 1001, 0)", () -> packer.isCertain(0, 1001, 0));
        argument("isCertain(0, 0, -1)", () -> packer.isCertain(0, 0, -1));
        argument("isCertain(0, 0, 2000000001)", () -> packer.isCertain(0, 0, 2000000001));
        argument("isCertain(1, 0, -1)", () -> packer.isCertain(1, 0, -1));
        argument("isCertain(1, -1, 0)", () -> packer.isCertain(1, -1, 0));
        is("isCertain(0, 1000, 0)", packer.isCertain(0, 1000, 0), false);
        wrongCircles("isCertain()", packer, c -> packer.isCertain(c, 0, 0));
        wrongCircles("isCertain() with all wrong", packer, c -> packer.isCertain(c, -1, -1));
    }

    static void promise36() {
        CirclePacker packer = net(WHEEL);
        is("greatestSlack(49050)", packer.greatestSlack(49050), -1);
        int slack = packer.greatestSlack(30000000);
        is("greatestSlack() is certain", packer.isCertain(0, slack, 30000000), true);
        is("greatestSlack() is the greatest", packer.isCertain(0, slack + 1, 30000000), false);
        is("greatestSlack() is in between", slack > 0 && slack < 1000, true);
        is("greatestSlack(49051)", packer.greatestSlack(49051), 0);
        is("greatestSlack() of fixed ones", net(TRIANGLE).greatestSlack(2000000000), -1);
        CirclePacker alone = net("circle a angle 90;circle b radius 5;");
        is("greatestSlack(1570796326)", alone.greatestSlack(1570796326), 1000);
        is("greatestSlack(1570796325)", alone.greatestSlack(1570796325), -1);
        is("one of two is not certain", net(WHEEL + "circle v;").greatestSlack(2000000000), -1);
        is("the other one of two", net("circle v;" + WHEEL).greatestSlack(2000000000), -1);
        argument("greatestSlack(-1)", () -> packer.greatestSlack(-1));
        argument("greatestSlack(2000000001)", () -> packer.greatestSlack(2000000001));
        argument("greatestSlack(-1) of fixed ones", () -> net(TRIANGLE).greatestSlack(-1));
    }

    // ---- layout

    static void promise37() {
        CirclePacker packer = net(RIGHT + "circle d;");
        is("lay(0)", packer.lay(0), 3);
        place("right", packer, 0, 0, 0);
        place("right", packer, 1, 300, 0);
        place("right", packer, 2, 0, 400);
        is("isPut(3)", packer.isPut(3), false);
        CirclePacker wheel = net(WHEEL);
        is("lay(2)", wheel.lay(2), 7);
        int[] order = {0, 3, 4, 2, 1, 5, 6};
        for (int i = 0; i < 7; i++) {
            is("putAt(" + i + ")", wheel.putAt(i), order[i]);
        }
        place("wheel", wheel, 3, 2000, 0);
        place("wheel", wheel, 4, 1000, 1732);
        place("wheel", wheel, 2, 1000, -1732);
        place("wheel", wheel, 1, -999, -1732);
        // The third circle of the first face comes at once, before a lower face with two circles.
        CirclePacker strip = net("circle a;circle b;circle c;circle d;face b a d;face a b c;");
        is("lay(1)", strip.lay(1), 4);
        is("putAt(2)", strip.putAt(2), 2);
        place("strip", strip, 2, 1000, 1732);
        place("strip", strip, 3, 1000, -1732);
        wheel.setRadius(3, 5);
        place("a layout stays", wheel, 3, 2000, 0);
        is("only one part", net("circle a;circle b;circle c;circle d;circle e;circle f;face a b c;face d e f;").lay(1), 3);
        wrongFaces("lay()", packer, packer::lay);
        unchanged("lay(1)", packer, () -> packer.lay(1));
        farLayouts();
    }

    private static void farLayouts() {
        // The ring around a circle does not close, so places are far from what the radii ask for.
        String text = "circle a radius 1;circle b radius 1;circle c radius 100000;circle d radius 1;circle e radius 1;"
                + "circle f radius 100000;circle g radius 1;face a b c;face a c d;face a d e;face a e f;face a f g;"
                + "face a g b;face b g f;";
        CirclePacker packer = new CirclePacker();
        Calls.give(packer, text);
        packer.readNet();
        Model model = new Model();
        model.buffer.append(text);
        model.readNet();
        for (int face = 0; face < 7; face++) {
            packer.lay(face);
            model.layOnce(face);
            for (int c = 0; c < 7; c++) {
                place("far", packer, c, (int) model.state.circles.get(c).x, (int) model.state.circles.get(c).y);
            }
        }
        CirclePacker far = farNet();
        is("lay(0)", far.lay(0), 4);
        place("far", far, 1, 1000001, 0);
        place("far", far, 2, 1000000, 1414);
        place("far, at the bound", far, 3, 700000000, 500707);
    }

    // Two small circles between two great ones: by the rounding the last one is put far off.
    private static CirclePacker farNet() {
        return far(net("circle a;circle b radius 1;circle c radius 1;circle d;face a b c;face d c b;"));
    }

    private static CirclePacker far(CirclePacker packer) {
        packer.setRadius(0, 1000000);
        packer.setRadius(3, 1000000);
        return packer;
    }

    static void promise38() {
        CirclePacker packer = net(TRIANGLE + "circle d;");
        is("isPut(0)", packer.isPut(0), false);
        packer.lay(0);
        for (int c = 0; c < 4; c++) {
            is("isPut(" + c + ")", packer.isPut(c), c < 3);
        }
        packer.undo();
        is("isPut(0)", packer.isPut(0), false);
        wrongCircles("isPut()", packer, packer::isPut);
        CirclePacker two = net("circle a;circle b;circle c;circle d;circle e;circle f;face a b c;face d e f;");
        two.lay(0);
        two.lay(1);
        is("isPut() of a former layout", two.isPut(0), false);
        is("isPut()", two.isPut(3), true);
    }

    static void promise39() {
        CirclePacker packer = net(RIGHT + "circle d;");
        state("x(0)", () -> packer.x(0));
        packer.lay(0);
        is("x(1)", packer.x(1), 300);
        is("x(2)", packer.x(2), 0);
        state("x(3)", () -> packer.x(3));
        wrongCircles("x()", packer, packer::x);
    }

    static void promise40() {
        CirclePacker packer = net(RIGHT + "circle d;");
        state("y(0)", () -> packer.y(0));
        packer.lay(0);
        is("y(1)", packer.y(1), 0);
        is("y(2)", packer.y(2), 400);
        state("y(3)", () -> packer.y(3));
        wrongCircles("y()", packer, packer::y);
    }

    static void promise41() {
        CirclePacker packer = net("circle a;circle b;circle c;circle d;face c d b;face b a c;");
        is("putAt(0)", packer.putAt(0), -1);
        packer.lay(0);
        int[] due = {2, 3, 1, 0, -1};
        for (int i = 0; i < 5; i++) {
            is("putAt(" + i + ")", packer.putAt(i), due[i]);
        }
        is("putAt(-1)", packer.putAt(-1), -1);
        is("putAt(12)", packer.putAt(12), -1);
        is("putAt(least)", packer.putAt(Integer.MIN_VALUE), -1);
        is("putAt(greatest)", packer.putAt(Integer.MAX_VALUE), -1);
        packer.turn();
        packer.shift(1, 1);
        is("putAt(0)", packer.putAt(0), 2);
        packer.lay(1);
        is("putAt(0)", packer.putAt(0), 1);
        packer.undo();
        is("putAt(0)", packer.putAt(0), 2);
        int[] many = {0, 1, 2, 3, 4, 5, 6, 7, 8, 9, 10, 11};
        CirclePacker whole = net(ICOSAHEDRON);
        is("lay(0)", whole.lay(0), many.length);
        is("putAt(11)", whole.putAt(11) >= 0, true);
        is("putAt(12)", whole.putAt(12), -1);
    }

    static void promise42() {
        CirclePacker packer = net(TRIANGLE + "circle d;");
        state("gap(0, 1)", () -> packer.gap(0, 1));
        packer.lay(0);
        is("gap(0, 1)", packer.gap(0, 1), 0);
        is("gap(0, 2)", packer.gap(0, 2), -1);
        is("gap(2, 0)", packer.gap(2, 0), -1);
        is("gap(0, 0)", packer.gap(0, 0), -2000);
        packer.setRadius(1, 300);
        is("gap(0, 1)", packer.gap(0, 1), 700);
        state("gap(0, 3)", () -> packer.gap(0, 3));
        state("gap(3, 0)", () -> packer.gap(3, 0));
        state("gap(3, 3)", () -> packer.gap(3, 3));
        wrongPairs("gap()", packer, packer::gap);
    }

    static void promise43() {
        CirclePacker packer = net(TRIANGLE + "circle d;");
        is("audit()", packer.audit(), -1);
        packer.lay(0);
        is("audit()", packer.audit(), 1);
        packer.setRadius(1, 300);
        is("audit()", packer.audit(), 700);
        packer.setRadius(1, 2000);
        is("audit()", packer.audit(), 1001);
        CirclePacker wheel = net(WHEEL);
        wheel.lay(0);
        wheel.setRadius(1, 1);
        wheel.setRadius(4, 900000);
        is("audit() looks at neighbors alone", wheel.audit(), Math.abs(wheel.gap(3, 4)));
        CirclePacker right = net(RIGHT);
        right.lay(0);
        is("audit() of touching ones", right.audit(), 0);
    }

    static void promise44() {
        CirclePacker packer = net(TRIANGLE + "circle d;");
        is("loosest()", packer.loosest(), -1);
        packer.lay(0);
        is("loosest() of two equal ones", packer.loosest(), 2);
        packer.setRadius(2, 500);
        is("loosest() of two equal ones", packer.loosest(), 2);
        packer.setRadius(1, 500);
        is("loosest()", packer.loosest(), 14);
        packer.setRadius(2, 1400);
        is("loosest()", packer.loosest(), 1);
        CirclePacker right = net(RIGHT);
        right.lay(0);
        is("loosest() of touching ones", right.loosest(), 1);
        is("loosest() before a layout", net(WHEEL).loosest(), -1);
    }

    static void promise45() {
        CirclePacker packer = net(WHEEL + "circle v;");
        is("overlaps(0)", packer.overlaps(0), 0);
        packer.lay(0);
        is("overlaps(0)", packer.overlaps(0), 0);
        // Circles 1 and 4 are not neighbors and lie 4000 from each other, or nearly so.
        packer.setRadius(1, 3500);
        int gap = packer.gap(1, 4);
        int others = 0;
        for (int c = 2; c < 7; c++) {
            others += c != 4 && c != 2 && c != 6 && packer.gap(1, c) < gap ? 1 : 0;
        }
        is("it overlaps", gap < 0, true);
        is("overlaps() at the bound", packer.overlaps(-gap), others);
        is("overlaps() below the bound", packer.overlaps(-gap - 1), others + 1);
        is("overlaps(1000000)", packer.overlaps(1000000), 0);
        packer.setRadius(1, 1000000);
        packer.setRadius(4, 1000000);
        is("overlaps(1000000)", packer.overlaps(1000000), 1);
        argument("overlaps(-1)", () -> packer.overlaps(-1));
        argument("overlaps(1000001)", () -> packer.overlaps(1000001));
        CirclePacker right = net(RIGHT);
        right.lay(0);
        right.setRadius(0, 5000);
        is("overlaps() of neighbors", right.overlaps(0), 0);
    }

    static void promise46() {
        CirclePacker packer = net(RIGHT);
        state("area(0)", () -> packer.area(0));
        packer.lay(0);
        is("area(0)", packer.area(0), 120000);
        packer.turn();
        is("area(0)", packer.area(0), 120000);
        packer.shift(-1000, 77);
        is("area(0)", packer.area(0), 120000);
        CirclePacker two = net("circle a;circle b;circle c;circle d;face a b c;face a c b;");
        two.lay(0);
        is("area(0)", two.area(0), 3464000);
        is("area(1)", two.area(1), -3464000);
        CirclePacker parts = net("circle a;circle b;circle c;circle d;circle e;circle f;face a b c;face d e f;");
        parts.lay(1);
        state("area(0)", () -> parts.area(0));
        is("area(1)", parts.area(1), 3464000);
        wrongFaces("area()", packer, f -> packer.area(f));
    }

    static void promise47() {
        CirclePacker packer = net("circle a;circle b;circle c;circle d;face a b c;face a c b;");
        is("flipped()", packer.flipped(), 0);
        packer.lay(0);
        is("flipped()", packer.flipped(), 1);
        CirclePacker tetrahedron = net(TETRAHEDRON);
        tetrahedron.lay(0);
        int due = 0;
        for (int f = 0; f < 4; f++) {
            due += tetrahedron.area(f) <= 0 ? 1 : 0;
        }
        is("flipped()", tetrahedron.flipped(), due);
        is("flipped() of a wheel", flippedOf(WHEEL), 0);
        // Three circles in a line: an area of 0 is not positive.
        CirclePacker flat = net("circle a radius 1;circle b radius 1;circle c radius 1;face a b c;");
        flat.setRadius(0, 1000000);
        flat.setRadius(1, 1000000);
        flat.lay(0);
        is("flipped() with area " + flat.area(0), flat.flipped(), flat.area(0) > 0 ? 0 : 1);
        CirclePacker line = net("circle a radius 100000;circle b radius 1;circle c radius 100000;face a b c;");
        line.setRadius(0, 1000000);
        line.setRadius(2, 1000000);
        line.lay(0);
        is("flipped() with area " + line.area(0), line.flipped(), line.area(0) > 0 ? 0 : 1);
    }

    private static int flippedOf(String text) {
        CirclePacker packer = net(text);
        packer.lay(0);
        return packer.flipped();
    }

    static void promise48() {
        CirclePacker packer = net(RIGHT + "circle d;");
        is("shift() without places", packer.shift(5, 5), 0);
        is("undo()", packer.undo(), 0);
        packer.lay(0);
        is("shift()", packer.shift(-1000000, 1000000), 3);
        place("shifted", packer, 0, -1000000, 1000000);
        place("shifted", packer, 1, -999700, 1000000);
        place("shifted", packer, 2, -1000000, 1000400);
        is("isPut(3)", packer.isPut(3), false);
        is("undo()", packer.undo(), 1);
        place("undone", packer, 1, 300, 0);
        argument("shift(1000001, 0)", () -> packer.shift(1000001, 0));
        argument("shift(-1000001, 0)", () -> packer.shift(-1000001, 0));
        argument("shift(0, 1000001)", () -> packer.shift(0, 1000001));
        argument("shift(0, -1000001)", () -> packer.shift(0, -1000001));
        argument("shift(least, greatest)", () -> packer.shift(Integer.MIN_VALUE, Integer.MAX_VALUE));
        unchanged("shift(1000001, 0)", packer, () -> packer.shift(1000001, 0));
        is("undo()", packer.undo(), 0);
        farShifts();
        CirclePacker first = far(net("circle d;circle b radius 1;circle c radius 1;circle a;face a b c;face d c b;"));
        first.lay(0);
        for (int i = 0; i < 300; i++) {
            first.shift(1000000, 0);
        }
        state("a shift of circle 0 beyond the bound", () -> first.shift(1, 0));
        is("x(0)", first.x(0), 1000000000);
    }

    // 300 shifts from the bound of a layout to that of a shift, in each of four directions.
    private static void farShifts() {
        int[] x = {1, 0, -1, 0};
        int[] y = {0, 1, 0, -1};
        for (int quarter = 0; quarter < 4; quarter++) {
            CirclePacker far = farNet();
            far.lay(0);
            for (int i = 0; i < quarter; i++) {
                far.turn();
            }
            int dx = x[quarter];
            int dy = y[quarter];
            for (int i = 0; i < 299; i++) {
                far.shift(1000000 * dx, 1000000 * dy);
            }
            is("a shift before the bound", far.shift(999999 * dx, 999999 * dy), 4);
            state("a shift beyond the bound", () -> far.shift(2 * dx, 2 * dy));
            unchanged("a shift beyond the bound", far, () -> far.shift(2 * dx, 2 * dy));
            is("undo() behind it", far.undo(), 4);
            is("a shift to the bound", far.shift(1000000 * dx, 1000000 * dy), 4);
            is("x", far.x(3), dx != 0 ? 1000000000 * dx : far.x(3));
            is("y", far.y(3), dy != 0 ? 1000000000 * dy : far.y(3));
            state("a shift beyond the bound", () -> far.shift(dx, dy));
            is("at() where the square of a distance is too great", far.at(opposite(dx, far.x(3)), opposite(dy, far.y(3))),
                    -1);
            argument("too great a shift comes first", () -> far.shift(1000001, 0));
        }
    }

    private static int opposite(int direction, int coordinate) {
        return direction > 0 ? Integer.MIN_VALUE : direction < 0 ? Integer.MAX_VALUE : coordinate;
    }

    static void promise49() {
        CirclePacker packer = net(RIGHT + "circle d;");
        is("turn() without places", packer.turn(), 0);
        is("undo()", packer.undo(), 0);
        packer.lay(0);
        packer.shift(7, -3);
        is("turn()", packer.turn(), 3);
        place("turned", packer, 0, 3, 7);
        place("turned", packer, 1, 3, 307);
        place("turned", packer, 2, -397, 7);
        is("isPut(3)", packer.isPut(3), false);
        packer.turn();
        place("turned twice", packer, 1, -307, 3);
        is("undo()", packer.undo(), 3);
        place("undone", packer, 1, 3, 307);
    }

    static void promise50() {
        CirclePacker packer = net(RIGHT + "circle d radius 100000;");
        for (int what = 0; what < 4; what++) {
            int w = what;
            state("box(" + what + ")", () -> packer.box(w));
        }
        argument("box(-1)", () -> packer.box(-1));
        packer.lay(0);
        int[] due = {-300, -200, 500, 700};
        for (int what = 0; what < 4; what++) {
            is("box(" + what + ")", packer.box(what), due[what]);
        }
        packer.setRadius(1, 1000);
        int[] greater = {-700, -1000, 1300, 1000};
        for (int what = 0; what < 4; what++) {
            is("box(" + what + ")", packer.box(what), greater[what]);
        }
        argument("box(-1)", () -> packer.box(-1));
        argument("box(4)", () -> packer.box(4));
    }

    static void promise51() {
        CirclePacker packer = net(RIGHT + "circle d radius 100000;");
        is("at(0, 0)", packer.at(0, 0), -1);
        packer.lay(0);
        is("at(0, 0)", packer.at(0, 0), 0);
        is("at(60, 80) on the edge", packer.at(60, 80), 0);
        is("at(61, 80) beyond the edge", packer.at(61, 80), -1);
        is("at(-60, -80) on the edge", packer.at(-60, -80), 0);
        is("at(-60, -81) beyond the edge", packer.at(-60, -81), -1);
        is("at(100, 0) where two touch", packer.at(100, 0), 0);
        is("at(101, 0)", packer.at(101, 0), 1);
        is("at(500, 0)", packer.at(500, 0), 1);
        is("at(501, 0)", packer.at(501, 0), -1);
        is("at(0, 700)", packer.at(0, 700), 2);
        is("at(0, 701)", packer.at(0, 701), -1);
        is("at(99999, 0)", packer.at(99999, 0), -1);
        int[] ends = {Integer.MIN_VALUE, Integer.MAX_VALUE, 0, -2000000000, 2000000000};
        for (int x : ends) {
            for (int y : ends) {
                is("at(" + x + ", " + y + ")", packer.at(x, y), x == 0 && y == 0 ? 0 : -1);
            }
        }
        packer.setRadius(0, 1000000);
        is("at() with another radius", packer.at(600000, 800000), 0);
        is("at() with another radius", packer.at(600000, 800001), -1);
        is("at() with another radius", packer.at(-1000000, 0), 0);
        is("at() with another radius", packer.at(-1000001, 0), -1);
    }

    static void promise52() {
        CirclePacker packer = net(RIGHT + "circle d;");
        state("touch(0, 1, 0)", () -> packer.touch(0, 1, 0));
        packer.lay(0);
        is("touch(0, 1, 0)", packer.touch(0, 1, 0), 100);
        is("touch(0, 1, 1)", packer.touch(0, 1, 1), 0);
        is("touch(1, 0, 0)", packer.touch(1, 0, 0), 100);
        is("touch(1, 2, 0)", packer.touch(1, 2, 0), 180);
        is("touch(1, 2, 1)", packer.touch(1, 2, 1), 160);
        is("touch(2, 1, 0)", packer.touch(2, 1, 0), 180);
        is("touch(2, 0, 1)", packer.touch(2, 0, 1), 100);
        packer.setRadius(0, 101);
        // 300 * 200 / 301 is 199 and a rest, from both sides towards 0.
        is("touch(1, 0, 0)", packer.touch(1, 0, 0), 300 - 199);
        is("touch(0, 1, 0)", packer.touch(0, 1, 0), 100);
        argument("touch(0, 1, -1)", () -> packer.touch(0, 1, -1));
        argument("touch(0, 1, 2)", () -> packer.touch(0, 1, 2));
        argument("touch(0, 0, 0)", () -> packer.touch(0, 0, 0));
        argument("touch(0, 3, 0)", () -> packer.touch(0, 3, 0));
        wrongPairs("touch()", packer, (c, d) -> packer.touch(c, d, 0));
        wrongPairs("touch() with all wrong", packer, (c, d) -> packer.touch(c, d, 2));
        CirclePacker parts = net("circle a;circle b;circle c;circle d;circle e;circle f;face a b c;face d e f;");
        parts.lay(1);
        state("touch(0, 1, 0)", () -> parts.touch(0, 1, 0));
        argument("touch(0, 1, 2)", () -> parts.touch(0, 1, 2));
        argument("touch(0, 3, 0)", () -> parts.touch(0, 3, 0));
    }

    // ---- reports, undo, a saved state

    static void promise53() {
        CirclePacker packer = net("circle abcdefgh radius 100;circle b radius 200;circle c radius 300;"
                + "face abcdefgh b c;circle d;");
        is("report()", packer.report(), "abcdefgh 100\nb 200\nc 300\nd 1000\n".length());
        same("report", report(packer), "abcdefgh 100\nb 200\nc 300\nd 1000\n");
        packer.lay(0);
        packer.shift(-5, -10);
        packer.setRadius(3, 1000000);
        same("report", report(packer), "abcdefgh 100 -5,-10\nb 200 295,-10\nc 300 -5,390\nd 1000000\n");
        is("report() of nothing", new CirclePacker().report(), 0);
        CirclePacker far = farNet();
        far.lay(0);
        far.turn();
        same("report", report(far), "a 1000000 0,0\nb 1 0,1000001\nc 1 -1414,1000000\nd 1000000 -500707,700000000\n");
    }

    static void promise54() {
        CirclePacker packer = net("circle a radius 5;circle bc radius 10;");
        index("reportByte(0)", () -> packer.reportByte(0));
        packer.report();
        String due = "a 5\nbc 10\n";
        for (int i = 0; i < due.length(); i++) {
            is("reportByte(" + i + ")", packer.reportByte(i), due.charAt(i));
        }
        index("reportByte(-1)", () -> packer.reportByte(-1));
        index("reportByte(10)", () -> packer.reportByte(10));
        index("reportByte(least)", () -> packer.reportByte(Integer.MIN_VALUE));
        index("reportByte(greatest)", () -> packer.reportByte(Integer.MAX_VALUE));
        packer.setRadius(0, 7);
        is("reportByte(2) stays", packer.reportByte(2), '5');
        packer.undo();
        packer.save();
        packer.restore();
        Calls.give(packer, "circle z;");
        packer.readNet();
        is("reportByte(0) stays", packer.reportByte(0), 'a');
        packer.report();
        is("reportByte(0)", packer.reportByte(0), 'z');
        is("reportByte(6)", packer.reportByte(6), '\n');
        index("reportByte(7)", () -> packer.reportByte(7));
        packer.readNet();
        packer.report();
        index("reportByte(0) of an empty report", () -> packer.reportByte(0));
    }

    static void promise55() {
        CirclePacker packer = net(WHEEL);
        is("undo()", packer.undo(), -1);
        Call[] calls = {() -> packer.setRadius(1, 7), () -> packer.solve(0), packer::sweep, () -> packer.settle(2),
            () -> packer.lay(0), () -> packer.shift(3, 4), packer::turn, () -> script(packer, "set q 5;turn;")};
        String[] states = new String[calls.length];
        for (int i = 0; i < calls.length; i++) {
            states[i] = all(packer);
            calls[i].run();
        }
        for (int i = calls.length - 1; i >= 3; i--) {
            is("undo()", packer.undo(), i - 3);
            same("what was before call " + i, all(packer), states[i]);
        }
        is("undo() of a sixth one", packer.undo(), -1);
        same("what it leaves", all(packer), states[3]);
        is("errorCode()", packer.errorCode(), 0);
        for (int i = 0; i < 9; i++) {
            packer.setRadius(1, 100 + i);
        }
        is("undo()", packer.undo(), 4);
        is("undo()", packer.undo(), 3);
        packer.setRadius(1, 55);
        is("undo()", packer.undo(), 3);
        is("radius(1)", packer.radius(1), 106);
        is("undo()", packer.undo(), 2);
        is("radius(1)", packer.radius(1), 105);
        // Calls that throw, that only ask, or that do nothing cannot be undone.
        packer.save();
        packer.report();
        packer.isSettled();
        packer.solved(0);
        script(packer, "turn;");
        fails("solve(1)", IllegalStateException.class, () -> packer.solve(1));
        fails("lay(6)", IndexOutOfBoundsException.class, () -> packer.lay(6));
        fails("settle(0)", IllegalArgumentException.class, () -> packer.settle(0));
        fails("shift()", IllegalArgumentException.class, () -> packer.shift(1000001, 0));
        is("undo()", packer.undo(), 1);
        is("radius(1)", packer.radius(1), 104);
        packer.restore();
        is("undo() behind restore()", packer.undo(), -1);
        is("radius(1)", packer.radius(1), 105);
        undoAfterCalm();
    }

    // A script whose only command cannot be done is not undone, but what was before an earlier call is.
    private static void undoAfterCalm() {
        CirclePacker packer = net("circle a angle 360;circle b radius 1000;circle c radius 1000;face a b c;");
        packer.setRadius(1, 900);
        is("calm", script(packer, "calm 0;"), 0);
        is("radius(0)", packer.radius(0), 1);
        is("undo()", packer.undo(), 0);
        is("radius(0)", packer.radius(0), 1000);
        is("radius(1)", packer.radius(1), 1000);
        for (int i = 0; i < 5; i++) {
            packer.setRadius(2, 2000 + i);
        }
        is("calm behind 5 calls", script(packer, "calm 0;"), 0);
        for (int i = 4; i >= 0; i--) {
            is("undo()", packer.undo(), i);
        }
        is("radius(2)", packer.radius(2), 1000);
        is("radius(0)", packer.radius(0), 1000);
        is("calm behind a set", script(packer, "set b 5;calm 0;"), 1);
        is("radius(0)", packer.radius(0), 1);
        is("undo()", packer.undo(), 0);
        is("radius(0)", packer.radius(0), 1000);
    }

    static void promise56() {
        CirclePacker packer = net(RIGHT);
        packer.lay(0);
        packer.turn();
        packer.setRadius(0, 5);
        String before = all(packer) + report(packer);
        is("save()", packer.save(), 3);
        is("undo() is left", packer.undo(), 2);
        packer.lay(0);
        packer.setRadius(1, 77);
        Calls.give(packer, WHEEL);
        packer.readNet();
        packer.lay(3);
        is("restore()", packer.restore(), 3);
        same("what was saved", all(packer) + report(packer), before);
        packer.setRadius(2, 8);
        is("save() again", packer.save(), 3);
        packer.setRadius(2, 9);
        packer.restore();
        is("radius(2)", packer.radius(2), 8);
        is("save() of nothing", new CirclePacker().save(), 0);
        is("names are saved, too", script(packer, "set c 4;"), 1);
    }

    static void promise57() {
        CirclePacker packer = net(WHEEL);
        state("restore()", packer::restore);
        is("count(0)", packer.count(0), 7);
        packer.save();
        Calls.give(packer, RIGHT);
        packer.readNet();
        packer.lay(0);
        packer.report();
        packer.setRadius(0, 5);
        Calls.give(packer, "circle");
        argument("readNet()", packer::readNet);
        packer.feed(0x63697263, 0x6c65207a, 0x3b202020, 0x20202020, 0x20202020);
        is("restore()", packer.restore(), 7);
        is("errorCode() stays", packer.errorCode(), 1);
        is("errorPosition() stays", packer.errorPosition(), 6);
        is("the report stays", packer.reportByte(2), '1');
        is("undo()", packer.undo(), -1);
        is("isPut(0)", packer.isPut(0), false);
        is("the buffer stays", packer.readNet(), 1);
        is("count(0)", packer.count(0), 1);
        is("restore() again", packer.restore(), 7);
        is("neighbor(2, 0)", packer.neighbor(2, 0), 3);
        is("faceAt(1, 2)", packer.faceAt(1, 2), 0);
        is("degrees(0)", packer.degrees(0), 360);
        is("kind(0)", packer.kind(0), 0);
        CirclePacker empty = new CirclePacker();
        empty.save();
        Calls.give(empty, TRIANGLE);
        empty.readNet();
        is("restore() of nothing", empty.restore(), 0);
        is("count(0)", empty.count(0), 0);
    }

    private static void run(int promise) {
        try {
            PromisesTest.class.getDeclaredMethod("promise" + promise).invoke(null);
        } catch (ReflectiveOperationException e) {
            throw new IllegalStateException("promise " + promise, e);
        }
    }

    public static void main(String[] args) {
        for (int i = 1; i <= 57; i++) {
            int promise = i;
            part("promise " + i, () -> run(promise));
        }
        end();
    }
}
