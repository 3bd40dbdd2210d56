import java.util.List;

/** The edges of scripts, sentence by sentence: section 6 and promise 5. */
public final class ScriptEdgesTest extends Checks {
    // Circle a asks for an angle that it cannot have.
    private static final String RESTLESS = "circle a angle 360;circle b radius 1000;circle c radius 1000;face a b c;";
    // Solving one circle unsettles its neighbors.
    private static final String SLOW = "circle a;circle b angle 100;circle c angle 100;circle d radius 1000;"
            + "circle e radius 900;face a b c;face a c d;face a d e;face a e b;";
    // Its unrest is 38038000 at first: whole thousands.
    private static final String EVEN = "circle a angle 55;circle b radius 1000;circle c radius 845;face a b c;";

    private static void refuses(String text, int code, int position, String net) {
        refusesScript(net(net), text, code, position);
    }

    private static void refusesHere(String text, int code, int position) {
        refuses(text, code, position, RIGHT);
    }

    private static CirclePacker laid(String text) {
        CirclePacker packer = net(text);
        packer.lay(0);
        return packer;
    }

    // ---- the grammar

    private static void grammar() {
        part("script = { command \";\" }", () -> {
            is("an empty script", net(RIGHT).runScript(), 0);
            is("blanks alone", script(net(RIGHT), " \n"), 0);
            is("one command", script(laid(RIGHT), "turn;"), 1);
            is("three commands", script(laid(RIGHT), "turn;turn;turn;"), 3);
            refusesHere("turn", 1, 4);
            refusesHere(";", 1, 0);
            refusesHere("turn;;", 1, 5);
            refusesHere("turn turn;", 1, 5);
            refusesHere("turn;)", 1, 5);
            refusesHere("turn;5;", 1, 5);
            refusesHere("a;", 1, 0);
        });
        part("command = \"solve\" NAME | \"sweep\" N | \"set\" NAME N | \"lay\" N | \"turn\" | \"calm\" N |"
                + " \"repeat\" N \"(\" script \")\"", () -> {
            for (String word : List.of("circle", "radius", "angle", "face", "scale")) {
                refusesHere(word + ";", 1, 0);
            }
            refusesHere("solve;", 1, 5);
            refusesHere("solve 5;", 1, 6);
            refusesHere("solve a 5;", 1, 8);
            refusesHere("sweep;", 1, 5);
            refusesHere("sweep a;", 1, 6);
            refusesHere("sweep 1 1;", 1, 8);
            refusesHere("set;", 1, 3);
            refusesHere("set a;", 1, 5);
            refusesHere("set a a;", 1, 6);
            refusesHere("set 5;", 1, 4);
            refusesHere("set a 5 5;", 1, 8);
            refusesHere("lay;", 1, 3);
            refusesHere("lay a;", 1, 4);
            refusesHere("turn 1;", 1, 5);
            refusesHere("calm;", 1, 4);
            refusesHere("calm a;", 1, 5);
            refusesHere("repeat;", 1, 6);
            refusesHere("repeat (turn;);", 1, 7);
            refusesHere("repeat 2 turn;", 1, 9);
            refusesHere("repeat 2(turn);", 1, 13);
            refusesHere("repeat 2(turn;;);", 1, 14);
            refusesHere("repeat 2(;);", 1, 9);
            refusesHere("repeat 2()", 1, 10);
            refusesHere("repeat 2());", 1, 10);
            refusesHere("repeat 2(turn;););", 1, 16);
            refusesHere("repeat 2(", 1, 9);
            refusesHere("repeat 2(turn; ", 1, 15);
            refusesHere("repeat 2(repeat 2(turn;);", 1, 25);
            refusesHere("(turn;);", 1, 0);
        });
        part("The tokens are those of a net, NAME is that of a circle.", () -> {
            CirclePacker packer = net("circle abcdefgh;");
            is("a name of 8 letters", script(packer, "set abcdefgh 000009;"), 1);
            is("radius", packer.radius(0), 9);
            is("blanks", script(packer, "\n set \n abcdefgh \n 7 \n ; \n"), 1);
            refusesScript(packer, "set abcdefghi 5;", 1, 4);
            refusesScript(packer, "set abcdefgh 0000005;", 1, 13);
            refusesScript(packer, "set Abcdefgh 5;", 1, 4);
            refusesScript(packer, "set abcdefg 5;", 4, 4);
            for (int b = 0; b < 256; b++) {
                String sign = String.valueOf((char) b);
                boolean isBlank = b == 32 || b == 10;
                boolean isWord = b >= 'a' && b <= 'z';
                if (isBlank) {
                    is("byte " + b, script(packer, sign + "set" + sign + "abcdefgh 5" + sign + ";" + sign), 1);
                } else if (!isWord) {
                    refusesScript(packer, sign + "turn;", 1, 0);
                    refusesScript(packer, "sweep 1;" + sign, 1, 8);
                    refusesScript(packer, "set" + sign + " abcdefgh 5;", 1, 3);
                }
                packer = net("circle abcdefgh;");
            }
        });
    }

    // ---- the commands

    private static void commands() {
        part("\"solve\" calls solve()", () -> {
            CirclePacker by = net(WHEEL);
            is("solve", script(by, "solve o;"), 1);
            is("radius(0)", by.radius(0), 999);
            is("a circle that is solved already", script(by, "solve o;"), 1);
        });
        part("\"sweep\" makes sweeps (1 to 6)", () -> {
            for (int number = 1; number <= 6; number++) {
                CirclePacker by = net(SLOW);
                CirclePacker one = net(SLOW);
                is("sweep " + number, script(by, "sweep " + number + ";"), 1);
                for (int i = 0; i < number; i++) {
                    one.sweep();
                }
                same("the radii", report(by), report(one));
                one.sweep();
                is("one more would change some", report(by).equals(report(one)), false);
            }
            refusesHere("sweep 0;", 2, 6);
            refusesHere("sweep 7;", 2, 6);
            refusesHere("sweep 999999;", 2, 6);
            refusesHere("sweep 1000001;", 1, 6);
        });
        part("\"set\" calls setRadius() (1 to 1000000, but at most 6 digits)", () -> {
            CirclePacker packer = net(RIGHT);
            is("set 1", script(packer, "set a 1;"), 1);
            is("radius(0)", packer.radius(0), 1);
            is("set 999999", script(packer, "set a 999999;"), 1);
            is("radius(0)", packer.radius(0), 999999);
            refusesHere("set a 0;", 2, 6);
            refusesHere("set a 000000;", 2, 6);
            refusesHere("set a 1000000;", 1, 6);
        });
        part("\"lay\" calls lay(), \"turn\" calls turn().", () -> {
            CirclePacker packer = net(WHEEL);
            is("lay", script(packer, "lay 5;"), 1);
            is("putAt(1)", packer.putAt(1), 6);
            is("turn", script(packer, "turn;"), 1);
            place("turned", packer, 6, 0, 2000);
            is("lay with zeros before", script(packer, "lay 000000;"), 1);
            is("putAt(1)", packer.putAt(1), 1);
        });
        part("\"calm\" makes sweeps as long as unrest() is greater than N (0 to 999999) thousands", () -> {
            is("unrest()", net(EVEN).unrest(), 38038000);
            CirclePacker equal = net(EVEN);
            is("calm that is just met", script(equal, "calm 38038;"), 1);
            is("no sweep", equal.radius(0), 1000);
            CirclePacker less = net(EVEN);
            is("calm that is just not met", script(less, "calm 38037;"), 1);
            is("a sweep", less.radius(0), less.solved(0));
            is("it changed", less.radius(0) != 1000, true);
            is("calm 0", script(net(EXACT), "calm 0;"), 1);
            is("unrest() of 4.2 thousand millions", net(RESTLESS).unrest() > 4000000000L, true);
            CirclePacker great = net("circle a angle 57;circle b radius 1000;circle c radius 1000;face a b c;");
            is("calm 999999", script(great, "calm 999999;"), 1);
            is("no sweep", great.radius(0), 1000);
            refusesHere("calm 1000000;", 1, 5);
        });
        part("at most 6; it cannot be done if unrest() is still greater then.", () -> {
            long[] after = new long[8];
            CirclePacker slow = net(SLOW);
            String[] reports = new String[8];
            for (int i = 0; i < 8; i++) {
                after[i] = slow.unrest() / 1000;
                reports[i] = report(slow);
                slow.sweep();
            }
            for (int i = 1; i < 8; i++) {
                is("unrest() becomes less", after[i] < after[i - 1], true);
                // Still greater than this before the i-th sweep, but not behind it.
                CirclePacker by = net(SLOW);
                is("calm by sweep " + i, script(by, "calm " + (after[i] + 1) + ";"), i <= 6 ? 1 : 0);
                same("the radii by sweep " + i, report(by), reports[Math.min(6, i)]);
            }
        });
        part("\"repeat\" does the commands in brackets N times (1 to 10).", () -> {
            for (int number = 1; number <= 10; number++) {
                CirclePacker packer = laid(RIGHT);
                is("repeat " + number, script(packer, "repeat " + number + "(turn;);"), number);
                is("x(1)", packer.x(1), number % 4 == 0 ? 300 : number % 4 == 2 ? -300 : 0);
            }
            is("nothing in brackets", script(laid(RIGHT), "repeat 10();turn;"), 1);
            is("2800 times nothing", script(laid(RIGHT), "repeat 10(" + "repeat 10();".repeat(28) + ");turn;"), 1);
            is("in another", script(laid(RIGHT), "repeat 3(turn;repeat 4(turn;);turn;);"), 18);
            is("a repeat is begun again in each round", script(laid(RIGHT), "repeat 2(repeat 2(turn;);repeat 3(turn;););"),
                    10);
            refusesHere("repeat 0(turn;);", 2, 7);
            refusesHere("repeat 11(turn;);", 2, 7);
            refusesHere("repeat 999999(turn;);", 2, 7);
        });
    }

    // ---- the end of a script

    private static void ends() {
        part("A script ends at a command that cannot be done: a circle that cannot be solved", () -> {
            CirclePacker packer = net(RIGHT + "circle d;");
            is("a fixed circle", script(packer, "set a 7;solve a;set a 8;"), 1);
            is("radius(0)", packer.radius(0), 7);
            is("a circle without a face", script(packer, "set a 9;solve d;set a 8;"), 1);
            is("radius(0)", packer.radius(0), 9);
            is("at once", script(packer, "solve a;set a 8;"), 0);
            is("radius(0)", packer.radius(0), 9);
        });
        part("a face that does not exist", () -> {
            CirclePacker packer = net(WHEEL);
            is("the last face", script(packer, "lay 5;set p 7;"), 2);
            is("the face behind it", script(packer, "lay 6;set p 8;"), 0);
            is("the greatest number", script(packer, "turn;lay 999999;set p 8;"), 1);
            is("radius(1)", packer.radius(1), 7);
            is("the layout stays", packer.putAt(1), 6);
            is("a net without faces", script(net("circle a;"), "lay 0;"), 0);
            is("an empty net", script(new CirclePacker(), "lay 0;"), 0);
            is("20 faces", script(net(ICOSAHEDRON), "lay 19;lay 20;"), 1);
        });
        part("\"turn\" when no circle has a place", () -> {
            CirclePacker packer = net(RIGHT);
            is("turn", script(packer, "turn;set a 7;"), 0);
            is("turn", script(packer, "set a 8;turn;set a 7;"), 1);
            is("radius(0)", packer.radius(0), 8);
            is("turn with places", script(packer, "lay 0;turn;set a 7;"), 3);
        });
        part("\"calm\" as told (its sweeps stay).", () -> {
            CirclePacker packer = net(RESTLESS);
            is("calm", script(packer, "set b 999;calm 0;set b 5;"), 1);
            is("its sweeps stay", packer.radius(0), 1);
            is("radius(1)", packer.radius(1), 999);
            CirclePacker six = net(SLOW);
            CirclePacker slow = net(SLOW);
            is("calm", script(six, "calm 0;set d 5;"), 0);
            is("settle(6)", slow.settle(6), 6);
            same("the radii of 6 sweeps", report(six), report(slow));
        });
        part("The commands before stay done.", () -> {
            CirclePacker packer = net(RIGHT);
            is("runScript()", script(packer, "set a 7;set b 8;lay 0;turn;solve a;set a 9;"), 4);
            is("radius(0)", packer.radius(0), 7);
            is("radius(1)", packer.radius(1), 8);
            place("turned", packer, 1, 0, 15);
            is("in a repeat", script(packer, "repeat 5(set a 3;repeat 2(set b 4;solve a;);set a 5;);set a 6;"), 2);
            is("radius(0)", packer.radius(0), 3);
            is("radius(1)", packer.radius(1), 4);
        });
        part("It also ends early when 20 commands were done.", () -> {
            for (int number = 18; number <= 22; number++) {
                CirclePacker packer = laid(RIGHT);
                is(number + " commands", script(packer, "turn;".repeat(number - 1) + "set a 7;"), Math.min(20, number));
                is("the last one", packer.radius(0), number <= 20 ? 7 : 100);
            }
            CirclePacker packer = laid(RIGHT);
            is("20 in repeats", script(packer, "repeat 4(repeat 4(turn;);set a 7;);set a 8;"), 20);
            is("radius(0)", packer.radius(0), 7);
            is("21 in repeats", script(packer, "repeat 3(repeat 7(turn;););set a 8;"), 20);
            is("a calm behind 20 is not begun", script(net(SLOW), "repeat 10(set d 1;set d 2;);calm 0;"), 20);
            CirclePacker slow = net(SLOW);
            script(slow, "repeat 10(set d 1;set d 2;);calm 0;");
            is("radius(0)", slow.radius(0), 1000);
        });
    }

    // ---- errors

    private static void errors() {
        part("Errors: 1, 2 and 4 as above", () -> {
            refusesHere("\t", 1, 0);
            refusesHere("turn;A", 1, 5);
            refusesHere("solve abcdefghi;", 1, 6);
            refusesHere("solve turn;", 1, 6);
            refusesHere("solve", 1, 5);
            refusesHere("solve a ", 1, 8);
            refusesHere("sweep 8;solve x;", 2, 6);
            refusesHere("set x 0;", 4, 4);
            refusesHere("solve d;", 4, 6);
            refusesHere("solve ab;", 4, 6);
            refuses("set a 5;", 4, 4, "");
            CirclePacker packer = net(RIGHT);
            Calls.give(packer, "circle z;");
            packer.readNet();
            refusesScript(packer, "set a 5;", 4, 4);
            packer.save();
            Calls.give(packer, RIGHT);
            packer.readNet();
            packer.restore();
            refusesScript(packer, "set a 5;", 4, 4);
            is("the name of a restored circle", script(packer, "set z 5;"), 1);
        });
        part("3: a \"repeat\" within two others", () -> {
            is("a repeat within one", script(laid(RIGHT), "repeat 2(repeat 2(turn;););"), 4);
            is("beside others", script(laid(RIGHT), "repeat 1(repeat 1(turn;);repeat 1(turn;););repeat 1(repeat 1(turn;););"),
                    3);
            refusesHere("repeat 2(repeat 2(repeat 2(turn;);););", 3, 18);
            refusesHere("repeat 2(repeat 2(turn;repeat", 3, 23);
            refusesHere("repeat 1(repeat 1(turn;););repeat 1(repeat 1(repeat 1();););", 3, 45);
        });
        part("5: the first word of a 31st command (\"repeat\" counts as one, too).", () -> {
            is("30 commands", script(laid(RIGHT), "turn;".repeat(30)), 20);
            refusesHere("turn;".repeat(31), 5, 150);
            refusesHere("turn;".repeat(30) + "sweep 0;", 5, 150);
            refusesHere("turn;".repeat(30) + "repeat", 5, 150);
            is("29 in a repeat", script(laid(RIGHT), "repeat 1(" + "turn;".repeat(29) + ");"), 20);
            refusesHere("repeat 1(" + "turn;".repeat(30) + ");", 5, 154);
            is("30 repeats", script(laid(RIGHT), "repeat 1();".repeat(30)), 0);
            refusesHere("repeat 1();".repeat(30) + "turn;", 5, 330);
            refusesHere("turn;".repeat(29) + "repeat 1(turn;);", 5, 154);
            is("the 30th one is a repeat", script(laid(RIGHT), "repeat 1();".repeat(28) + "turn;repeat 1();"), 1);
        });
    }

    private static void readings() {
        part("Reads the whole buffer as a script, empties the buffer, also if the text has an error, and runs the"
                + " script.", () -> {
            CirclePacker packer = net(RIGHT);
            String last = "set a 7;";
            is("800 bytes", script(packer, "set b 8;" + " ".repeat(792 - last.length()) + last), 2);
            is("radius(0)", packer.radius(0), 7);
            is("radius(1)", packer.radius(1), 8);
            argument("the buffer is empty", () -> packer.truncate(1));
            refusesScript(packer, "set b 5;set a 0;", 2, 14);
            argument("the buffer is empty", () -> packer.truncate(1));
            is("nothing was run", packer.radius(1), 8);
            refusesScript(packer, " ".repeat(796) + "turn", 1, 800);
        });
        part("Returns the number of commands that were done, \"repeat\" not counted.", () -> {
            is("an empty script", net(RIGHT).runScript(), 0);
            is("repeats alone", script(net(RIGHT), "repeat 10(repeat 10(););"), 0);
            is("repeats", script(laid(RIGHT), "repeat 2(repeat 3(turn;););turn;"), 7);
            is("a command that cannot be done", script(laid(RIGHT), "turn;solve a;"), 1);
        });
    }

    public static void main(String[] args) {
        grammar();
        commands();
        ends();
        errors();
        readings();
        end();
    }
}
