import java.util.ArrayList;
import java.util.List;

/** The edges of undo, reports, saved states and refused calls, sentence by sentence: section 5 and promises 53 to 57. */
public final class StateEdgesTest extends Checks {
    private static final int MOST = 1000000;
    private static final String TEXT = "circle a radius 100;circle b radius 200;circle c;circle d;face a b c;";
    private static final String RESTLESS = "circle a angle 360;circle b radius 1000;circle c radius 1000;face a b c;";

    /** A call that changes radii or the layout of the packer and can be undone. */
    interface Change {
        void on(CirclePacker packer);
    }

    private static final List<Change> CHANGES = List.of(p -> p.setRadius(1, 7), p -> p.solve(2), p -> p.setRadius(2, 9),
            p -> p.sweep(), p -> p.setRadius(2, 11), p -> p.settle(2), p -> p.lay(0), p -> p.shift(3, 4), p -> p.turn(),
            p -> script(p, "set a 5;turn;"));

    // ---- undo

    private static void undoing() {
        part("Each call of setRadius(), solve(), sweep(), settle(), lay(), shift() and turn() that throws nothing, and each"
                + " runScript() by which a command was done can be undone", () -> {
            for (Change change : CHANGES) {
                CirclePacker packer = net(TEXT);
                packer.lay(0);
                packer.setRadius(2, 5000);
                String before = all(packer);
                change.on(packer);
                is("it changes something", all(packer).equals(before), false);
                is("undo()", packer.undo(), 2);
                same("what was before", all(packer), before);
                is("undo() of the one before", packer.undo(), 1);
                is("undo() of the first one", packer.undo(), 0);
                is("undo() of none", packer.undo(), -1);
            }
        });
        part("a call that changes nothing can be undone, too", () -> {
            CirclePacker packer = new CirclePacker();
            packer.sweep();
            packer.settle(1);
            packer.shift(0, 0);
            packer.turn();
            is("undo() of a new object's calls", packer.undo(), 3);
            CirclePacker fixed = net(RIGHT);
            fixed.setRadius(0, 100);
            fixed.lay(0);
            fixed.lay(0);
            is("undo() of the same again", fixed.undo(), 2);
            is("it is laid still", fixed.isPut(0), true);
        });
        part("that throws nothing", () -> {
            CirclePacker packer = net(TEXT);
            packer.setRadius(0, 7);
            index("setRadius()", () -> packer.setRadius(4, 5));
            argument("setRadius()", () -> packer.setRadius(0, 0));
            index("solve()", () -> packer.solve(4));
            state("solve()", () -> packer.solve(3));
            argument("settle()", () -> packer.settle(21));
            index("lay()", () -> packer.lay(1));
            argument("shift()", () -> packer.shift(0, MOST + 1));
            refusesScript(packer, "set a 5;x", 1, 8);
            is("undo()", packer.undo(), 0);
            is("radius(0)", packer.radius(0), 100);
        });
        part("each runScript() by which a command was done", () -> {
            CirclePacker packer = net(RESTLESS);
            packer.setRadius(1, 900);
            is("an empty script", packer.runScript(), 0);
            is("repeats alone", script(packer, "repeat 2();"), 0);
            is("a command that cannot be done", script(packer, "turn;set b 5;"), 0);
            is("undo() of the call before", packer.undo(), 0);
            is("radius(1)", packer.radius(1), 1000);
            is("three commands", script(packer, "set b 5;set b 6;set c 7;turn;"), 3);
            is("undo() of all three", packer.undo(), 0);
            is("radius(1)", packer.radius(1), 1000);
            is("radius(2)", packer.radius(2), 1000);
            is("a command and a calm that cannot be done", script(packer, "set b 5;calm 0;"), 1);
            is("undo()", packer.undo(), 0);
            is("the sweeps of the calm are undone, too", packer.radius(0), 1000);
            is("a calm alone that cannot be done", script(packer, "calm 0;"), 0);
            is("its sweeps stay", packer.radius(0), 1);
            is("undo() of none", packer.undo(), -1);
        });
        part("the latest first; the latest 5 of them are kept.", () -> {
            for (int calls = 0; calls <= 20; calls++) {
                CirclePacker packer = net(TEXT);
                for (int i = 1; i <= calls; i++) {
                    packer.setRadius(0, 100 + i);
                }
                int kept = Math.min(5, calls);
                for (int i = 1; i <= kept; i++) {
                    is("undo() " + i + " of " + calls, packer.undo(), kept - i);
                    is("radius(0)", packer.radius(0), 100 + calls - i);
                }
                is("undo() of none behind " + calls, packer.undo(), -1);
                is("radius(0)", packer.radius(0), 100 + calls - kept);
            }
            CirclePacker full = net(RESTLESS);
            for (int i = 1; i <= 5; i++) {
                full.setRadius(1, i);
            }
            is("a script by which no command was done", script(full, "calm 0;"), 0);
            for (int i = 4; i >= 0; i--) {
                is("undo() behind it", full.undo(), i);
                is("radius(1)", full.radius(1), i == 0 ? 1000 : i);
            }
            is("radius(0)", full.radius(0), 1000);
            // Calls and undos in turns, three steps on and one back, so that the rows of what is kept go round.
            CirclePacker packer = net(TEXT);
            List<Integer> due = new ArrayList<>();
            int radius = 100;
            for (int i = 1; i <= 60; i++) {
                if (i % 4 != 0) {
                    due.add(radius);
                    radius = 1000 + i;
                    packer.setRadius(0, radius);
                    if (due.size() > 5) {
                        due.remove(0);
                    }
                } else {
                    radius = due.remove(due.size() - 1);
                    is("undo() at " + i, packer.undo(), due.size());
                    is("radius(0) at " + i, packer.radius(0), radius);
                }
            }
        });
        part("Radii and the layout are as before it then.", () -> {
            CirclePacker packer = net(WHEEL);
            packer.lay(2);
            packer.shift(5, 6);
            String before = all(packer);
            packer.lay(0);
            packer.settle(3);
            script(packer, "set p 5;lay 4;turn;");
            packer.undo();
            packer.undo();
            packer.undo();
            same("what was before", all(packer), before);
            packer.undo();
            packer.undo();
            is("isPut(0)", packer.isPut(0), false);
            is("putAt(0)", packer.putAt(0), -1);
            state("x(0)", () -> packer.x(0));
        });
        part("readNet() and restore() forget them.", () -> {
            CirclePacker packer = net(TEXT);
            packer.setRadius(0, 5);
            packer.save();
            is("save() does not", packer.undo(), 0);
            packer.setRadius(0, 6);
            Calls.give(packer, "circle");
            argument("readNet()", packer::readNet);
            is("a readNet() that throws does not", packer.undo(), 0);
            packer.setRadius(0, 6);
            packer.restore();
            is("restore() does", packer.undo(), -1);
            is("radius(0)", packer.radius(0), 5);
            packer.setRadius(0, 7);
            is("readNet() of nothing", packer.readNet(), 0);
            is("readNet() does", packer.undo(), -1);
            is("count(0)", packer.count(0), 0);
            CirclePacker other = net(TEXT);
            other.setRadius(0, 7);
            state("restore()", other::restore);
            is("a restore() that throws does not", other.undo(), 0);
        });
        part("NONE, and nothing changes, if there is none (undo)", () -> {
            is("a new object", new CirclePacker().undo(), -1);
            CirclePacker packer = net(TEXT);
            packer.lay(0);
            for (int i = 1; i <= 5; i++) {
                packer.setRadius(0, i);
            }
            for (int i = 1; i <= 5; i++) {
                packer.undo();
            }
            packer.report();
            String before = spend(packer);
            CirclePacker twin = net(TEXT);
            twin.lay(0);
            for (int i = 1; i <= 5; i++) {
                twin.setRadius(0, i);
            }
            for (int i = 1; i <= 5; i++) {
                twin.undo();
            }
            twin.report();
            is("undo()", twin.undo(), -1);
            is("undo()", twin.undo(), -1);
            same("all", spend(twin), before);
        });
    }

    // ---- reports

    private static void reports() {
        part("for each circle, in order, its name, a space, its radius, and, if it has a place, a space and its place as"
                + " \"x,y\"; then a line feed.", () -> {
            same("an empty net", report(new CirclePacker()), "");
            CirclePacker packer = net("circle abcdefgh radius 100;circle b radius 200;circle c radius 300;"
                    + "face abcdefgh b c;circle d;");
            same("without places", report(packer), "abcdefgh 100\nb 200\nc 300\nd 1000\n");
            packer.lay(0);
            same("with places", report(packer), "abcdefgh 100 0,0\nb 200 300,0\nc 300 0,400\nd 1000\n");
            packer.shift(-5, -10);
            packer.setRadius(3, MOST);
            packer.setRadius(1, 1);
            same("below 0", report(packer), "abcdefgh 100 -5,-10\nb 1 295,-10\nc 300 -5,390\nd 1000000\n");
            packer.setRadius(1, 10);
            packer.setRadius(3, 999999);
            packer.shift(4, 1);
            same("tens", report(packer), "abcdefgh 100 -1,-9\nb 10 299,-9\nc 300 -1,391\nd 999999\n");
        });
        part("@return the number of its bytes", () -> {
            is("an empty net", new CirclePacker().report(), 0);
            is("one circle", net("circle a radius 5;").report(), 4);
            is("the longest one", longest().report(), 12 * 39);
        });
        part("a long report", () -> {
            CirclePacker packer = longest();
            int length = packer.report();
            StringBuilder line = new StringBuilder();
            for (int i = length - 39; i < length; i++) {
                line.append((char) packer.reportByte(i));
            }
            same("the last line", line.toString(), "llllllll 1000000 " + packer.x(11) + "," + packer.y(11) + "\n");
            index("the byte behind it", () -> packer.reportByte(length));
        });
        part("Writes a report, in place of the one before", () -> {
            CirclePacker packer = net("circle abc radius 12345;circle d;");
            packer.report();
            Calls.give(packer, "circle z radius 5;");
            packer.readNet();
            is("the one before stays", packer.reportByte(0), 'a');
            is("report()", packer.report(), 4);
            same("the new one", report(packer), "z 5\n");
            index("nothing of the one before", () -> packer.reportByte(4));
            packer.readNet();
            is("report() of an empty net", packer.report(), 0);
            index("nothing at all", () -> packer.reportByte(0));
        });
        part("Throws IndexOutOfBoundsException if there is no such byte, or there was no report", () -> {
            CirclePacker packer = net("circle a radius 5;");
            for (int i : new int[] {0, 1, -1, Integer.MIN_VALUE, Integer.MAX_VALUE}) {
                index("no report", () -> packer.reportByte(i));
            }
            packer.report();
            is("byte 0", packer.reportByte(0), 'a');
            is("byte 3", packer.reportByte(3), '\n');
            for (int i : new int[] {-1, 4, 5, 492, 1000, Integer.MIN_VALUE, Integer.MAX_VALUE}) {
                index("byte " + i, () -> packer.reportByte(i));
            }
            packer.setRadius(0, 99999);
            packer.sweep();
            packer.undo();
            is("it stays", packer.reportByte(2), '5');
            index("and its length, too", () -> packer.reportByte(4));
        });
    }

    // 12 circles with names of 8 letters and the greatest radii, each place with two coordinates of 9 digits and a sign.
    private static CirclePacker longest() {
        StringBuilder text = new StringBuilder();
        for (char c = 'a'; c <= 'l'; c++) {
            text.append("circle ").append(name(c)).append(';');
        }
        for (char c = 'b'; c < 'l'; c++) {
            text.append("face aaaaaaaa ").append(name(c)).append(' ').append(name((char) (c + 1))).append(';');
        }
        CirclePacker packer = net(text.toString());
        for (int c = 0; c < 12; c++) {
            packer.setRadius(c, MOST);
        }
        packer.lay(0);
        for (int i = 0; i < 150; i++) {
            packer.shift(-MOST, -MOST);
        }
        return packer;
    }

    private static String name(char letter) {
        return String.valueOf(letter).repeat(8);
    }

    // ---- a saved state

    private static void saving() {
        part("Saves everything but the buffer, the error, the report, what can be undone and the saved state", () -> {
            CirclePacker packer = net(WHEEL);
            packer.lay(2);
            packer.turn();
            packer.setRadius(0, 5);
            String before = all(packer) + report(packer);
            is("save()", packer.save(), 7);
            Calls.give(packer, "circle z;circle y;circle x;face x y z;");
            packer.readNet();
            packer.lay(0);
            packer.shift(77, 88);
            packer.report();
            Calls.give(packer, "circle");
            argument("readNet()", packer::readNet);
            Calls.give(packer, "set q 77;");
            is("restore()", packer.restore(), 7);
            isError("the error stays", packer, 1, 6);
            is("the report stays", packer.reportByte(0), 'z');
            is("the buffer stays", packer.runScript(), 1);
            is("names come back", packer.radius(2), 77);
            is("undo() of the script alone", packer.undo(), 0);
            same("all", all(packer) + report(packer), before);
            is("degrees", packer.degrees(0), 360);
            is("kinds", packer.kind(0), 0);
            is("rows", packer.neighbor(2, 0), 3);
            is("sides", packer.faceAt(0, 6), 5);
            is("corners", packer.corner(5, 2), 1);
        });
        part("in place of an earlier one. @return the number of circles (save)", () -> {
            CirclePacker packer = new CirclePacker();
            is("save() of a new object", packer.save(), 0);
            Calls.give(packer, TEXT);
            packer.readNet();
            is("save()", packer.save(), 4);
            packer.setRadius(0, 7);
            is("save() again", packer.save(), 4);
            packer.setRadius(0, 8);
            packer.restore();
            is("radius(0)", packer.radius(0), 7);
            CirclePacker whole = net(ICOSAHEDRON);
            whole.lay(0);
            is("save() of 12", whole.save(), 12);
            String before = all(whole);
            whole.readNet();
            is("restore() of 12", whole.restore(), 12);
            same("all", all(whole), before);
        });
        part("what can be undone stays (save)", () -> {
            CirclePacker packer = net(TEXT);
            packer.setRadius(0, 7);
            packer.save();
            packer.setRadius(0, 8);
            is("undo()", packer.undo(), 1);
            is("undo()", packer.undo(), 0);
            is("radius(0)", packer.radius(0), 100);
            packer.restore();
            is("undo() does not change what is saved", packer.radius(0), 7);
        });
        part("Restores the saved state, which stays. Returns the number of circles then.", () -> {
            CirclePacker packer = net(TEXT);
            packer.save();
            for (int i = 1; i <= 3; i++) {
                packer.setRadius(0, i);
                packer.lay(0);
                is("restore() " + i, packer.restore(), 4);
                is("radius(0)", packer.radius(0), 100);
                is("isPut(0)", packer.isPut(0), false);
            }
            packer.readNet();
            is("behind another net", packer.restore(), 4);
            CirclePacker empty = new CirclePacker();
            empty.save();
            Calls.give(empty, TEXT);
            empty.readNet();
            is("restore() of an empty net", empty.restore(), 0);
            is("count(0)", empty.count(0), 0);
            is("count(1)", empty.count(1), 0);
        });
        part("Throws IllegalStateException if nothing was saved", () -> {
            CirclePacker packer = net(TEXT);
            packer.setRadius(0, 7);
            state("restore()", packer::restore);
            is("nothing changes", packer.radius(0), 7);
            packer.save();
            is("restore()", packer.restore(), 4);
        });
    }

    // ---- refused calls

    // All that can be asked of a packer with few circles, then what it keeps: it is spent by this.
    private static String spend(CirclePacker packer) {
        return packer.errorCode() + " " + packer.errorPosition() + kept(packer) + texts(packer);
    }

    private static String kept(CirclePacker packer) {
        StringBuilder told = new StringBuilder("\nreport ");
        for (int i = 0; i < 200; i++) {
            try {
                told.append((char) packer.reportByte(i));
            } catch (IndexOutOfBoundsException e) {
                i = 200;
            }
        }
        told.append(state(packer));
        for (int left = packer.undo(); left >= 0; left = packer.undo()) {
            told.append("\nundo ").append(left).append(' ').append(all(packer));
        }
        return told.toString();
    }

    private static String texts(CirclePacker packer) {
        StringBuilder told = new StringBuilder("\nbuffer ");
        try {
            told.append(packer.feed(0x20202020, 0x20202020, 0x20202020, 0x20202020, 0x20202020)).append(' ');
        } catch (IllegalStateException e) {
            told.append("full ");
        }
        try {
            told.append(packer.readNet()).append(' ').append(report(packer));
        } catch (IllegalArgumentException e) {
            told.append(packer.errorCode()).append(' ').append(packer.errorPosition());
        }
        try {
            told.append("\nsaved ").append(packer.restore()).append(state(packer));
        } catch (IllegalStateException e) {
            told.append("nothing");
        }
        return told.toString();
    }

    private static String state(CirclePacker packer) {
        StringBuilder told = new StringBuilder("\nstate ").append(all(packer));
        for (int c = 0; c < packer.count(0); c++) {
            told.append("\n").append(packer.degrees(c)).append(' ').append(packer.kind(c));
            for (int i = 0; i < packer.neighbors(c); i++) {
                told.append(' ').append(packer.neighbor(c, i));
            }
        }
        for (int i = 0; i < 3 * packer.count(1); i++) {
            told.append(' ').append(packer.corner(i / 3, i % 3));
        }
        return told.toString();
    }

    // A packer with something of everything: a report, a layout, a saved state, 5 calls to undo, an error and a text.
    private static CirclePacker busy(String text) {
        CirclePacker packer = net(TEXT);
        Calls.give(packer, "circle a radius 0;");
        argument("readNet()", packer::readNet);
        packer.lay(0);
        packer.save();
        packer.report();
        packer.shift(5, 7);
        packer.setRadius(2, 300);
        packer.sweep();
        packer.turn();
        packer.setRadius(1, 250);
        Calls.give(packer, text);
        return packer;
    }

    private static void refused(Class<?> due, String what, Change call) {
        refused(due, what, "circle z radius 77;", call);
    }

    private static void refused(Class<?> due, String what, String text, Change call) {
        CirclePacker packer = busy(text);
        fails(what, due, () -> call.on(packer));
        same("what " + what + " leaves", spend(packer), spend(busy(text)));
    }

    private static void refusals() {
        part("A call that throws an exception changes nothing, unless something else is said.", () -> {
            Class<?> state = IllegalStateException.class;
            Class<?> argument = IllegalArgumentException.class;
            String full = "circle z radius 77;" + " ".repeat(762);
            refused(state, "feed()", full, p -> p.feed(0, 0, 0, 0, 0));
            refused(state, "feed()", full + " ".repeat(19), p -> p.feed(0, 0, 0, 0, 0));
            refused(argument, "truncate(-1)", p -> p.truncate(-1));
            refused(argument, "truncate(20)", p -> p.truncate(20));
            refused(argument, "count(6)", p -> p.count(6));
            refused(argument, "corner()", p -> p.corner(0, 3));
            refused(argument, "angle()", p -> p.angle(0, -1));
            refused(state, "defect()", p -> p.defect(0));
            refused(argument, "setRadius()", p -> p.setRadius(0, 0));
            refused(argument, "setRadius()", p -> p.setRadius(2, MOST + 1));
            refused(state, "solve() of a fixed one", p -> p.solve(0));
            refused(state, "solve() without a face", p -> p.solve(3));
            refused(argument, "settle(0)", p -> p.settle(0));
            refused(argument, "settle(21)", p -> p.settle(21));
            refused(argument, "lowSum()", p -> p.lowSum(2, 1001));
            refused(argument, "highSum()", p -> p.highSum(2, -1));
            refused(argument, "isCertain()", p -> p.isCertain(2, 0, -1));
            refused(argument, "greatestSlack()", p -> p.greatestSlack(-1));
            refused(IndexOutOfBoundsException.class, "lay()", p -> p.lay(1));
            refused(state, "x()", p -> p.x(3));
            refused(state, "y()", p -> p.y(3));
            refused(state, "gap()", p -> p.gap(0, 3));
            refused(argument, "overlaps()", p -> p.overlaps(-1));
            refused(argument, "shift()", p -> p.shift(MOST + 1, 0));
            refused(argument, "shift()", p -> p.shift(1, -MOST - 1));
            refused(argument, "box()", p -> p.box(4));
            refused(argument, "touch()", p -> p.touch(0, 3, 0));
            refused(argument, "touch()", p -> p.touch(0, 1, 2));
            refused(IndexOutOfBoundsException.class, "reportByte()", p -> p.reportByte(1000));
        });
        part("A call that throws an exception changes nothing: a wrong number of a circle or a face", () -> {
            for (Entry entry : ENTRIES) {
                refused(IndexOutOfBoundsException.class, entry.name, p -> entry.call.on(p, 4, 1));
            }
        });
        part("only the buffer, errorCode() and errorPosition() change then (readNet)", () -> {
            for (String text : List.of("circle", "circle z;circle y;face z y x;", "scale 0;", "circle z;circle z;")) {
                CirclePacker packer = busy(text);
                argument("readNet()", packer::readNet);
                is("errorPosition()", packer.errorPosition() >= 6, true);
                argument("the buffer is empty", () -> packer.truncate(1));
                Calls.give(packer, "circle z;");
                CirclePacker twin = busy("circle z;");
                same("all the rest", kept(packer) + texts(packer), kept(twin) + texts(twin));
            }
        });
        part("only the buffer, errorCode() and errorPosition() change then (runScript)", () -> {
            for (String text : List.of("set a 5;turn", "set a 5;set x 5;", "set a 5;set a 0;", "lay 0;turn;sweep 7;")) {
                CirclePacker packer = busy(text);
                argument("runScript()", packer::runScript);
                is("errorPosition()", packer.errorPosition() >= 12, true);
                argument("the buffer is empty", () -> packer.truncate(1));
                Calls.give(packer, "circle z;");
                CirclePacker twin = busy("circle z;");
                same("all the rest", kept(packer) + texts(packer), kept(twin) + texts(twin));
            }
        });
        part("A call that throws an exception changes nothing: shift, box, restore", () -> {
            CirclePacker packer = far();
            CirclePacker twin = far();
            state("shift()", () -> packer.shift(1, 0));
            state("shift()", () -> packer.shift(MOST, -MOST));
            same("what shift() leaves", spend(packer), spend(twin));
            CirclePacker bare = net(TEXT);
            bare.setRadius(0, 7);
            state("box()", () -> bare.box(0));
            state("restore()", bare::restore);
            index("reportByte()", () -> bare.reportByte(0));
            CirclePacker other = net(TEXT);
            other.setRadius(0, 7);
            same("what they leave", spend(bare), spend(other));
        });
    }

    // Circle 3 lies at the bound of a shift.
    private static CirclePacker far() {
        CirclePacker packer = net("circle a;circle b radius 1;circle c radius 1;circle d;face a b c;face d c b;");
        packer.setRadius(0, MOST);
        packer.setRadius(3, MOST);
        packer.lay(0);
        for (int i = 0; i < 300; i++) {
            packer.shift(MOST, 0);
        }
        return packer;
    }

    // ---- numbers of circles and faces

    /** A call with a number of a circle and a number of a face, of which it takes the one that is its own. */
    interface Numbered {
        void on(CirclePacker packer, int circle, int face);
    }

    private static final class Entry {
        final String name;
        final Numbered call;

        Entry(String name, Numbered call) {
            this.name = name;
            this.call = call;
        }
    }

    // Each parameter that is a number of a circle or a face; all other arguments are right ones.
    private static final List<Entry> ENTRIES = List.of(
            new Entry("kind", (p, c, f) -> p.kind(c)),
            new Entry("degrees", (p, c, f) -> p.degrees(c)),
            new Entry("neighbors", (p, c, f) -> p.neighbors(c)),
            new Entry("neighbor", (p, c, f) -> p.neighbor(c, 0)),
            new Entry("neighbor that there is not", (p, c, f) -> p.neighbor(c, -1)),
            new Entry("corner", (p, c, f) -> p.corner(f, 0)),
            new Entry("faceAt, the first", (p, c, f) -> p.faceAt(c, 0)),
            new Entry("faceAt, the second", (p, c, f) -> p.faceAt(0, c)),
            new Entry("steps, the first", (p, c, f) -> p.steps(c, 0)),
            new Entry("steps, the second", (p, c, f) -> p.steps(0, c)),
            new Entry("steps, both", (p, c, f) -> p.steps(c, c)),
            new Entry("border", (p, c, f) -> p.border(c, 0)),
            new Entry("border that there is not", (p, c, f) -> p.border(c, -1)),
            new Entry("perimeter", (p, c, f) -> p.perimeter(c)),
            new Entry("distance, the first", (p, c, f) -> p.distance(c, 0)),
            new Entry("distance, the second", (p, c, f) -> p.distance(0, c)),
            new Entry("distance, both", (p, c, f) -> p.distance(c, c)),
            new Entry("radius", (p, c, f) -> p.radius(c)),
            new Entry("angle", (p, c, f) -> p.angle(f, 0)),
            new Entry("sum", (p, c, f) -> p.sum(c)),
            new Entry("defect", (p, c, f) -> p.defect(c)),
            new Entry("setRadius", (p, c, f) -> p.setRadius(c, 5)),
            new Entry("solve", (p, c, f) -> p.solve(c)),
            new Entry("solved", (p, c, f) -> p.solved(c)),
            new Entry("lowSum", (p, c, f) -> p.lowSum(c, 0)),
            new Entry("highSum", (p, c, f) -> p.highSum(c, 0)),
            new Entry("isCertain", (p, c, f) -> p.isCertain(c, 0, 0)),
            new Entry("lay", (p, c, f) -> p.lay(f)),
            new Entry("isPut", (p, c, f) -> p.isPut(c)),
            new Entry("x", (p, c, f) -> p.x(c)),
            new Entry("y", (p, c, f) -> p.y(c)),
            new Entry("gap, the first", (p, c, f) -> p.gap(c, 0)),
            new Entry("gap, the second", (p, c, f) -> p.gap(0, c)),
            new Entry("area", (p, c, f) -> p.area(f)),
            new Entry("touch, the first", (p, c, f) -> p.touch(c, 0, 0)),
            new Entry("touch, the second", (p, c, f) -> p.touch(0, c, 0)));

    private static void numbers() {
        for (Entry entry : ENTRIES) {
            part("The parameters circle and other are numbers of circles, face that of a face; otherwise"
                    + " IndexOutOfBoundsException is thrown: " + entry.name, () -> {
                outside(entry, new CirclePacker(), 0, 0);
                outside(entry, net("circle a;"), 1, 0);
                outside(entry, busy(""), 4, 1);
                CirclePacker whole = net(ICOSAHEDRON);
                whole.lay(0);
                outside(entry, whole, 12, 20);
                entry.call.on(whole, 1, 19);
                CirclePacker less = net(ICOSAHEDRON);
                Calls.give(less, "circle a;circle b;circle c;face a b c;");
                less.readNet();
                outside(entry, less, 3, 1);
            });
        }
    }

    private static void outside(Entry entry, CirclePacker packer, int circles, int faces) {
        int[] beyond = {circles, circles + 1, 12, 13, 144, Integer.MAX_VALUE, -1, -12, Integer.MIN_VALUE};
        int[] beyondFaces = {faces, faces + 1, 20, 21, 60, Integer.MAX_VALUE, -1, -20, Integer.MIN_VALUE};
        for (int i = 0; i < beyond.length; i++) {
            int circle = beyond[i];
            int face = beyondFaces[i];
            index(entry.name + " of circle " + circle + " or face " + face, () -> entry.call.on(packer, circle, face));
        }
    }

    // ---- the order of exceptions

    private static void orders() {
        part("If several exceptions apply to a call, the one that is listed first is thrown.", () -> {
            CirclePacker packer = net(TEXT);
            index("corner(), a wrong face and corner", () -> packer.corner(1, 3));
            index("angle(), a wrong face and corner", () -> packer.angle(-1, -1));
            index("setRadius(), a wrong circle and radius", () -> packer.setRadius(4, 0));
            index("lowSum(), a wrong circle and slack", () -> packer.lowSum(4, 1001));
            index("highSum(), a wrong circle and slack", () -> packer.highSum(-1, -1));
            index("isCertain(), a wrong circle and slack", () -> packer.isCertain(4, -1, 0));
            index("isCertain(), a wrong circle and bound", () -> packer.isCertain(4, 0, -1));
            index("gap(), no place and a wrong circle", () -> packer.gap(0, 4));
            index("gap(), a wrong circle and no place", () -> packer.gap(4, 0));
            argument("box(), a wrong what and no place", () -> packer.box(4));
            index("touch(), a wrong circle and what", () -> packer.touch(4, 0, 2));
            index("touch(), a wrong second circle and what", () -> packer.touch(0, 4, 2));
            argument("touch(), a wrong what and no place", () -> packer.touch(0, 1, 2));
            argument("touch(), no neighbors and no place", () -> packer.touch(0, 3, 0));
            argument("touch(), a wrong what and no neighbors", () -> packer.touch(0, 3, 2));
            CirclePacker far = far();
            argument("shift(), too great a shift beyond the bound", () -> far.shift(MOST + 1, 0));
            argument("shift(), too great a second shift and beyond the bound", () -> far.shift(1, MOST + 1));
            state("shift(), beyond the bound alone", () -> far.shift(1, MOST));
        });
    }

    public static void main(String[] args) {
        undoing();
        reports();
        saving();
        refusals();
        numbers();
        orders();
        end();
    }
}
