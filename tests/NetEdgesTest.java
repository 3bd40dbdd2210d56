import java.util.List;

/** The edges of nets and of their texts, sentence by sentence: section 1 and promises 1 to 4, 6 and 7. */
public final class NetEdgesTest extends Checks {
    private static final String ABCD = "circle a;circle b;circle c;circle d;";
    private static final String SEVEN = "circle a;circle b;circle c;circle d;circle e;circle f;circle g;";

    // The circles a, b, c .. in order, this many of them.
    private static String circles(int number) {
        StringBuilder text = new StringBuilder();
        for (int i = 0; i < number; i++) {
            text.append("circle ").append((char) ('a' + i)).append(';');
        }
        return text.toString();
    }

    private static boolean isLetter(int b) {
        return b >= 'a' && b <= 'z';
    }

    private static boolean isDigit(int b) {
        return b >= '0' && b <= '9';
    }

    private static boolean isBlank(int b) {
        return b == 32 || b == 10;
    }

    // ---- the grammar and its tokens

    private static void buffers() {
        part("A net is read from a buffer of at most 800 bytes.", () -> {
            String last = "circle z radius 77;";
            CirclePacker full = reads(" ".repeat(800 - last.length()) + last, 1);
            is("radius", full.radius(0), 77);
            reads(last + " ".repeat(800 - last.length()), 1);
            refuses(" ".repeat(799) + ";", 1, 799);
            refuses(" ".repeat(794) + "circle", 1, 800);
        });
        part("net = { statement \";\" }", () -> {
            reads("", 0);
            reads("\n ", 0);
            reads("circle a;", 1);
            reads("circle a;circle b;scale 5;", 3);
            refuses("circle a", 1, 8);
            refuses(";", 1, 0);
            refuses("circle a;;", 1, 9);
            refuses("circle a;;circle b;", 1, 9);
            refuses("circle a circle b;", 1, 9);
            refuses("a;", 1, 0);
            refuses("5;", 1, 0);
        });
        part("statement = \"circle\" NAME [ \"radius\" N | \"angle\" N ] | \"face\" NAME NAME NAME | \"scale\" N", () -> {
            for (String verb : List.of("radius", "angle", "solve", "sweep", "set", "lay", "turn", "calm", "repeat")) {
                refuses(verb + ";", 1, 0);
            }
            refuses("circle;", 1, 6);
            refuses("circle 5;", 1, 7);
            refuses("circle a b;", 1, 9);
            refuses("circle a 5;", 1, 9);
            refuses("circle a radius;", 1, 15);
            refuses("circle a angle;", 1, 14);
            refuses("circle a radius b;", 1, 16);
            refuses("circle a radius 5 6;", 1, 18);
            refuses("circle a radius 5 angle 5;", 1, 18);
            refuses("circle a angle 5 radius 5;", 1, 17);
            refuses("circle a scale 5;", 1, 9);
            refuses(ABCD + "face;", 1, 40);
            refuses(ABCD + "face a;", 1, 42);
            refuses(ABCD + "face a b;", 1, 44);
            refuses(ABCD + "face a b 5;", 1, 45);
            refuses(ABCD + "face a b c d;", 1, 47);
            refuses("scale;", 1, 5);
            refuses("scale a;", 1, 6);
            refuses("scale 5 5;", 1, 8);
        });
    }

    private static void words() {
        part("A word is a maximal run of letters a to z, at most 8 of them.", () -> {
            same("names of 8 letters", report(reads("circle abcdefgh;circle zzzzzzzz;circle a;circle z;", 4)),
                    "abcdefgh 1000\nzzzzzzzz 1000\na 1000\nz 1000\n");
            reads("circle abcdefgh;circle abcdefgi;circle bbcdefgh;circle abcdefg;circle bcdefgh;", 5);
            refuses("circle abcdefgh;circle abcdefgh;", 3, 23);
            refuses("circle abcdefghi;", 1, 7);
            refuses("circle abcdefgh;face abcdefghi a b;", 1, 21);
            refuses("a".repeat(800), 1, 0);
            refuses("circlea;", 1, 0);
            refuses("circlecircle a;", 1, 0);
            refuses("circle aradius 5;", 1, 15);
            refuses("circle A;", 1, 7);
            refuses("circle Z;", 1, 7);
            refuses("circle `;", 1, 7);
            refuses("circle {;", 1, 7);
            refuses("circle az`;", 1, 9);
            refuses("circle az{;", 1, 9);
        });
        part("A number N is a maximal run of digits, at most 6 of them.", () -> {
            CirclePacker packer = reads("circle a radius 000009;circle b radius 54321;circle c radius 67890;", 3);
            same("numbers with each digit", report(packer), "a 9\nb 54321\nc 67890\n");
            refuses("circle a radius 0000009;", 1, 16);
            refuses("circle a radius 1000000;", 1, 16);
            refuses("circle a radius 4294967297;", 1, 16);
            refuses("circle a radius 18446744073709551617;", 1, 16);
            refuses("scale " + "1".repeat(794), 1, 6);
            refuses("circle a radius 5/;", 1, 17);
            refuses("circle a radius 5:;", 1, 17);
            refuses("circle a radius /;", 1, 16);
            refuses("circle a radius -5;", 1, 16);
            refuses("circle a radius 5x;", 1, 17);
            is("a number behind a word", reads("circle a radius5;", 1).radius(0), 5);
        });
        part("The other tokens are the single characters ; ( and ).", () -> {
            CirclePacker packer = net(RIGHT);
            is("brackets", script(packer, "lay 0;repeat 2(turn;);"), 3);
            is("brackets alone", script(packer, "repeat 2(repeat 2(););"), 0);
            for (char sign : "[]{}<>,.:!?+-*/=_'\"&%$#".toCharArray()) {
                refuses("circle a" + sign, 1, 8);
                refusesScript(packer, "repeat 2" + sign, 1, 8);
            }
            refuses("circle a(", 1, 8);
            refuses("(circle a;)", 1, 0);
            refuses(")", 1, 0);
        });
        part("Spaces (byte 32) and line feeds (byte 10) may stand before, between and behind tokens.", () -> {
            String text = "%circle%a%radius%5%;%face%a%b%c%;%scale%7%;%";
            for (String blank : List.of(" ", "\n", "  ", "\n\n", " \n ")) {
                String full = text.replace("face", "circle b;circle c;face").replace("%", blank);
                is("radius", reads(full, 5).radius(0), 5);
                is("runScript()", script(net(RIGHT), "%set%a%7%;%repeat%2%(%lay%0%;%)%;%".replace("%", blank)), 3);
            }
            refuses(" \n;", 1, 2);
        });
        part("Every other byte, a longer run of letters and a longer run of digits is an invalid token.", () -> {
            for (int b = 0; b < 256; b++) {
                String sign = String.valueOf((char) b);
                if (isBlank(b)) {
                    reads(sign + "circle a" + sign + ";" + sign, 1);
                } else if (isLetter(b)) {
                    same("name", report(reads("circle a" + sign + ";", 1)), "a" + sign + " 1000\n");
                } else {
                    refuses(sign + "circle a;", 1, 0);
                    refuses("circle a;" + sign, 1, 9);
                    refuses("circle " + sign + ";", 1, 7);
                    if (b != ';') {
                        refuses("circle a" + sign + ";", 1, 8);
                    }
                    if (isDigit(b)) {
                        reads("circle a radius 1" + sign + ";", 1);
                    } else if (b != ';') {
                        refuses("circle a radius 1" + sign + ";", 1, 17);
                    }
                }
            }
            refuses("circle abcdefghi;", 1, 7);
            refuses("scale 0000001;", 1, 6);
        });
        part("NAME is a word that is not one of the words in quotes here and in section 6.", () -> {
            for (String word : List.of("circle", "radius", "angle", "face", "scale", "solve", "sweep", "set", "lay",
                    "turn", "calm", "repeat")) {
                refuses("circle " + word + ";", 1, 7);
                refuses(ABCD + "face " + word + " b c;", 1, 41);
                refuses(ABCD + "face a " + word + " c;", 1, 43);
                refuses(ABCD + "face a b " + word + ";", 1, 45);
                refusesScript(net(RIGHT), "solve " + word + ";", 1, 6);
                refusesScript(net(RIGHT), "set " + word + " 5;", 1, 4);
                reads("circle " + word.substring(1) + ";circle " + word.substring(0, word.length() - 1) + ";", 2);
            }
            reads("circle net;circle script;circle n;circle name;circle sets;circle s;circle none;circle faces;", 8);
        });
    }

    // ---- statements

    private static void statements() {
        part("\"circle\" defines a circle: a fixed one with its radius (1 to 100000)", () -> {
            is("radius", reads("circle a radius 1;", 1).radius(0), 1);
            is("radius", reads("circle a radius 100000;", 1).radius(0), 100000);
            is("degrees", reads("circle a radius 360;", 1).degrees(0), 0);
            refuses("circle a radius 0;", 2, 16);
            refuses("circle a radius 000000;", 2, 16);
            refuses("circle a radius 100001;", 2, 16);
            refuses("circle a radius 999999;", 2, 16);
        });
        part("or a free one with the angle that is wanted around it (1 to 1800 degrees; 360 without it).", () -> {
            is("degrees", reads("circle a angle 1;", 1).degrees(0), 1);
            is("degrees", reads("circle a angle 1800;", 1).degrees(0), 1800);
            is("degrees", reads("circle a;", 1).degrees(0), 360);
            refuses("circle a angle 0;", 2, 15);
            refuses("circle a angle 1801;", 2, 15);
            refuses("circle a angle 100000;", 2, 15);
        });
        part("Circles are numbered from 0, at most 12.", () -> {
            CirclePacker packer = reads(circles(11) + "circle z radius 12;", 12);
            is("count(0)", packer.count(0), 12);
            is("radius(11)", packer.radius(11), 12);
            is("degrees(0)", packer.degrees(0), 360);
            index("radius(12)", () -> packer.radius(12));
            refuses(circles(12) + "circle m;", 5, 108);
            reads(circles(12) + "face a b l;scale 5;", 14);
        });
        part("\"face\" defines a face, a triangle of three different circles that stand before, counterclockwise.", () -> {
            CirclePacker packer = reads(ABCD + "face d b a;", 5);
            is("corner(0, 0)", packer.corner(0, 0), 3);
            is("corner(0, 1)", packer.corner(0, 1), 1);
            is("corner(0, 2)", packer.corner(0, 2), 0);
            refuses(ABCD + "face a a b;", 3, 43);
            refuses(ABCD + "face a b a;", 3, 45);
            refuses(ABCD + "face a b b;", 3, 45);
            refuses(ABCD + "face e b c;circle e;", 4, 41);
            refuses(ABCD + "face a e c;circle e;", 4, 43);
            refuses(ABCD + "face a b e;circle e;", 4, 45);
        });
        part("Faces are numbered from 0, at most 20.", () -> {
            CirclePacker packer = reads(ICOSAHEDRON, 32);
            is("count(1)", packer.count(1), 20);
            is("corner(0, 2)", packer.corner(0, 2), 2);
            is("corner(19, 0)", packer.corner(19, 0), 11);
            is("corner(19, 1)", packer.corner(19, 1), 6);
            index("corner(20, 0)", () -> packer.corner(20, 0));
            refuses(ICOSAHEDRON + "face a b c;", 5, ICOSAHEDRON.length());
            reads(ICOSAHEDRON + "scale 5;", 33);
        });
        part("from its first circle to the second one, from the second one to the third one, and from the third one to"
                + " the first one.", () -> {
            CirclePacker packer = reads(ABCD + "face d b a;", 5);
            int[][] sides = {{3, 1}, {1, 0}, {0, 3}};
            for (int[] side : sides) {
                is("faceAt()", packer.faceAt(side[0], side[1]), 0);
                is("faceAt() back", packer.faceAt(side[1], side[0]), -1);
            }
        });
        part("Each directed side belongs to one face at most.", NetEdgesTest::sides);
        part("\"scale\" sets the radius that free circles have at first (1 to 100000; 1000 without it).", () -> {
            same("behind", report(reads("circle a;circle b radius 7;circle c angle 5;scale 1;", 4)), "a 1\nb 7\nc 1\n");
            same("before", report(reads("scale 100000;circle a;circle b radius 7;", 3)), "a 100000\nb 7\n");
            same("between", report(reads("circle a;scale 5;circle b;", 3)), "a 5\nb 5\n");
            same("without it", report(reads("circle a;", 1)), "a 1000\n");
            refuses("scale 0;", 2, 6);
            refuses("scale 100001;", 2, 6);
            CirclePacker packer = reads("scale 5;circle a;", 2);
            Calls.give(packer, "circle a;");
            packer.readNet();
            is("a scale holds for one net", packer.radius(0), 1000);
        });
        part("It may stand once.", () -> {
            refuses("scale 5;scale 5;", 3, 8);
            refuses("scale 5;circle a;scale 6;", 3, 17);
            CirclePacker packer = reads("scale 5;", 1);
            Calls.give(packer, "scale 6;circle a;");
            is("once in each net", packer.readNet(), 2);
            Calls.give(packer, "scale 6;scale 7;");
            argument("readNet()", packer::readNet);
            Calls.give(packer, "scale 6;circle a;");
            is("once behind an error, too", packer.readNet(), 2);
        });
    }

    // Each side of a second face set upon each side of the first one, in its direction and back.
    private static void sides() {
        String[] first = {"a", "b", "c"};
        for (int side = 0; side < 3; side++) {
            String from = first[side];
            String to = first[(side + 1) % 3];
            String text = ABCD + "face a b c;face ";
            refuses(text + from + " " + to + " d;", 3, 54);
            refuses(text + "d " + from + " " + to + ";", 3, 56);
            refuses(text + to + " d " + from + ";", 3, 56);
            reads(text + to + " " + from + " d;", 6);
            reads(text + "d " + to + " " + from + ";", 6);
            reads(text + from + " d " + to + ";", 6);
        }
        refuses(ABCD + "face a b c;face a b c;", 3, 54);
        reads(ABCD + "face a b c;face c b a;", 6);
        CirclePacker packer = reads(ABCD + "face a b c;", 5);
        Calls.give(packer, ABCD + "face a b c;");
        is("sides of the net before do not count", packer.readNet(), 5);
    }

    // ---- neighbors

    private static void neighbors() {
        part("Two circles are neighbors if there is a side between them.", () -> {
            CirclePacker packer = reads(ABCD + "face a b c;", 5);
            for (int c = 0; c < 4; c++) {
                is("neighbors(" + c + ")", packer.neighbors(c), c < 3 ? 2 : 0);
            }
            is("count(2)", packer.count(2), 3);
        });
        part("Around a circle c, the neighbor b follows the neighbor a if there is a face with the sides c to a, a to b,"
                + " b to c", () -> {
            CirclePacker packer = reads(ABCD + "face a b c;face a c d;", 6);
            int[][] rows = {{1, 2, 3}, {2, 0}, {3, 0, 1}, {0, 2}};
            for (int c = 0; c < 4; c++) {
                for (int i = 0; i < rows[c].length; i++) {
                    is("neighbor(" + c + ", " + i + ")", packer.neighbor(c, i), rows[c][i]);
                }
            }
        });
        part("The neighbors of each circle must be in one row by this: an open row (an outer circle), or a ring"
                + " (an inner circle).", () -> {
            is("an open row", reads(ABCD + "face a b c;", 5).kind(0), 1);
            is("a ring of 2", reads(ABCD + "face a b c;face a c b;", 6).kind(0), 0);
            is("a ring of 3", reads(TETRAHEDRON, 8).kind(3), 0);
            is("a ring of 6", reads(WHEEL, 13).kind(0), 0);
            is("two open rows made one", reads(SEVEN + "face a b c;face a d e;face a c d;", 10).neighbors(0), 4);
            refuses(SEVEN + "face a b c;face a d e;", 6, 85);
            refuses(SEVEN + "face a b c;face a c b;face a d e;", 6, 96);
            refuses(SEVEN + "face a b c;face a c b;face a d e;face a e d;", 6, 107);
            refuses(SEVEN + "face a b c;face a c d;face a d b;face a e f;face a f g;face a g e;", 6, 129);
            refuses(SEVEN + "face g b c;face g d e;", 6, 85);
            refuses(SEVEN + "face b a c;face d a e;face f a g;", 6, 96);
            refuses(circles(12) + "face l a b;face l c d;", 6, 130);
            // Each circle of a face besides is in a row of its own, but the one in the middle is not.
            refuses(SEVEN + "face c d e;face a d b;face d g f;", 6, 96);
        });
        part("A circle without neighbors is neither.", () -> {
            CirclePacker packer = reads(ABCD + "face a b c;", 5);
            is("kind(3)", packer.kind(3), 2);
            is("inner circles", packer.count(3), 0);
            is("outer circles", packer.count(4), 3);
            is("an alone circle of a net without faces", reads("circle a;", 1).kind(0), 2);
        });
    }

    // ---- errors

    private static void errors() {
        part("the index of the first byte of a token, or the length of the text if it ends too early", () -> {
            refuses("   abc", 1, 3);
            refuses("circle abcdefghi", 1, 7);
            refuses("circle a radius 1234567", 1, 16);
            refuses("circle a radius 100001", 2, 16);
            refuses("\n\ncircle  a;\n circle\na;", 3, 21);
            refuses("c", 1, 0);
            refuses("circle", 1, 6);
            refuses("circle \n", 1, 8);
            refuses("circle a", 1, 8);
            refuses("circle a  ", 1, 10);
            refuses("circle a radius", 1, 15);
            refuses("circle a radius 5\n", 1, 18);
            refuses(ABCD + "face", 1, 40);
            refuses(ABCD + "face a ", 1, 43);
            refuses(ABCD + "face a b", 1, 44);
            refuses(ABCD + "face a b c", 1, 46);
            refuses("scale", 1, 5);
            refuses("scale 5 ", 1, 8);
        });
        part("Tokens are checked from left to right and the first error is reported", () -> {
            refuses("circle a radius 0;circle A;", 2, 16);
            refuses("circle A;circle a radius 0;", 1, 7);
            refuses("circle a;circle a;x", 3, 16);
            refuses(ABCD + "face x a a;", 4, 41);
            refuses(ABCD + "face a a x;", 3, 43);
            refuses(ABCD + "face a x A", 4, 43);
            refuses(circles(12) + "circle a", 5, 108);
            refuses(circles(12) + "x;circle m;", 1, 108);
            refuses("scale 5;scale 0;", 3, 8);
            refuses("scale 0;scale 5;", 2, 6);
            refuses(SEVEN + "face a b c;face a d e;circle a;", 3, 92);
        });
        part("if several codes apply at one token, the lowest one.", () -> {
            refuses("circle a radius 9999999;", 1, 16);
            refuses("circle abcdefgh;circle abcdefghi;", 1, 23);
            refuses(ABCD + "face abcdefghi b c;", 1, 41);
            refuses(ABCD + "face a circle c;", 1, 43);
            refuses(circles(12) + "circles m;", 1, 108);
            refuses(ICOSAHEDRON + "faces a b c;", 1, ICOSAHEDRON.length());
            refuses(SEVEN + "face a b c;face a d e;circle h", 1, 93);
            CirclePacker packer = net(RIGHT);
            refusesScript(packer, "repeat 1(repeat 1(" + "turn;".repeat(28) + "repeat", 3, 158);
            refusesScript(packer, "turn;".repeat(30) + "circle", 1, 150);
        });
        part("1: an invalid token, or a token that the grammar does not allow here.", () -> {
            refuses("\t", 1, 0);
            refuses("circle a;circle", 1, 15);
            refuses("turn;", 1, 0);
        });
        part("2: a number out of its range.", () -> {
            refuses("circle a;circle b radius 0;", 2, 25);
            refuses("circle a;circle b angle 1801;", 2, 24);
            refuses("circle a;scale 0;", 2, 15);
        });
        part("3: a name that is defined already; the first word of a second \"scale\"; a name that stands in the face"
                + " already; the second or third name of a face by which the face gets a directed side that another"
                + " face has.", () -> {
            refuses("circle a;circle a;", 3, 16);
            refuses(circles(11) + "circle k;", 3, 106);
            refuses("circle a radius 5;circle b;circle a radius 5;", 3, 34);
            refuses("scale 5;scale;", 3, 8);
            refuses(ABCD + "face b b c;", 3, 43);
            refuses(ABCD + "face b c b;", 3, 45);
            refuses(ABCD + "face b c c;", 3, 45);
            refuses(ABCD + "face a b c;face b c d;", 3, 54);
            refuses(ABCD + "face a b c;face d c a;", 3, 56);
            refuses(ABCD + "face a b c;face b d a;", 3, 56);
        });
        part("4: a name that no circle has.", () -> {
            refuses(ABCD + "face e b c;", 4, 41);
            refuses(ABCD + "face a e c;", 4, 43);
            refuses(ABCD + "face a b e;", 4, 45);
            refuses("face a b c;", 4, 5);
            refuses(ABCD + "face aa b c;", 4, 41);
            CirclePacker packer = reads(ABCD, 4);
            Calls.give(packer, "circle e;face a b c;");
            argument("names of the net before do not count", packer::readNet);
            isError("names of the net before", packer, 4, 14);
        });
        part("5: the first word of a 13th circle or a 21st face.", () -> {
            refuses(circles(12) + "circle", 5, 108);
            refuses(circles(12) + "circle a;", 5, 108);
            refuses(circles(12) + " circle 5;", 5, 109);
            refuses(ICOSAHEDRON + "face", 5, ICOSAHEDRON.length());
            refuses(ICOSAHEDRON + "face a a", 5, ICOSAHEDRON.length());
            refuses(ICOSAHEDRON + "circle m;", 5, ICOSAHEDRON.length());
        });
        part("6: at the length of the text, if there is no other error: a circle whose neighbors are not in one row.",
                () -> {
            refuses(SEVEN + "face a b c;face a d e; \n ", 6, 88);
            refuses(SEVEN + "face a b c;face a d e;scale 0;", 2, 91);
            refuses(SEVEN + "face a b c;face a d e;scale", 1, 90);
            reads(SEVEN + "face a b c;face a d e;face a e b;", 10);
        });
    }

    // ---- promises 1 to 4, 6 and 7

    private static void packers() {
        part("Creates a packer with an empty net, with an empty buffer.", () -> {
            CirclePacker packer = new CirclePacker();
            for (int what = 0; what < 6; what++) {
                is("count(" + what + ")", packer.count(what), 0);
            }
            index("radius(0)", () -> packer.radius(0));
            index("corner(0, 0)", () -> packer.corner(0, 0));
            argument("truncate(1)", () -> packer.truncate(1));
            is("truncate(0)", packer.truncate(0), 0);
            is("readNet()", packer.readNet(), 0);
            is("feed()", new CirclePacker().feed(0, 0, 0, 0, 0), 20);
        });
        part("NONE = -1: There is no such value.", () -> is("NONE", CirclePacker.NONE, -1));
        part("An object is used for at most 512 calls after it has been made", () -> {
            CirclePacker packer = net(RIGHT);
            // readNet() and feed() and truncate() were 7 calls at most.
            for (int i = 1; i <= 500; i++) {
                is("setRadius()", packer.setRadius(0, 100 + i), 99 + i);
            }
            is("undo()", packer.undo(), 4);
            is("radius(0)", packer.radius(0), 599);
        });
    }

    private static void feeds() {
        part("Appends 20 bytes to the buffer: the four bytes of each argument, the most significant byte first.", () -> {
            CirclePacker packer = new CirclePacker();
            // "circle abcdefgh" and, in a second call, " radius 98765;"
            packer.feed(0x63697263, 0x6c652061, 0x62636465, 0x66676820, 0x72616469);
            packer.feed(0x75732039, 0x38373635, 0x3b202020, 0x0a0a0a0a, 0x20202020);
            is("readNet()", packer.readNet(), 1);
            same("report", report(packer), "abcdefgh 98765\n");
            for (int place = 0; place < 20; place++) {
                int[] words = {0x20202020, 0x20202020, 0x20202020, 0x20202020, 0x20202020};
                words[place / 4] ^= 0x80 << 8 * (3 - place % 4);
                packer.feed(words[0], words[1], words[2], words[3], words[4]);
                argument("readNet() of a byte above 127", packer::readNet);
                isError("byte " + place, packer, 1, place);
            }
            packer.feed(-1, Integer.MIN_VALUE, Integer.MAX_VALUE, 0, 1);
            argument("readNet() of bytes 255", packer::readNet);
            isError("bytes 255", packer, 1, 0);
        });
        part("Returns the number of bytes in the buffer.", () -> {
            CirclePacker packer = new CirclePacker();
            for (int i = 1; i <= 40; i++) {
                is("feed()", packer.feed(1, 2, 3, 4, 5), 20 * i);
            }
            packer.truncate(7);
            is("feed()", packer.feed(1, 2, 3, 4, 5), 27);
        });
        part("Throws IllegalStateException if it would exceed 800", () -> {
            for (int length = 779; length <= 800; length++) {
                CirclePacker packer = new CirclePacker();
                for (int i = 0; i < 40; i++) {
                    packer.feed(0x20202020, 0x20202020, 0x20202020, 0x20202020, 0x2020203b);
                }
                packer.truncate(length);
                if (length <= 780) {
                    is("feed() behind " + length, packer.feed(0, 0, 0, 0, 0), length + 20);
                } else {
                    state("feed() behind " + length, () -> packer.feed(0, 0, 0, 0, 0));
                    is("what it leaves", packer.truncate(length), length);
                    int longer = length + 1;
                    argument("what it leaves", () -> packer.truncate(longer));
                }
            }
        });
        part("Truncates the buffer.", () -> {
            CirclePacker packer = new CirclePacker();
            // "circle a;circle b;  "
            packer.feed(0x63697263, 0x6c652061, 0x3b636972, 0x636c6520, 0x623b2020);
            is("truncate(20)", packer.truncate(20), 20);
            is("truncate(9)", packer.truncate(9), 9);
            is("readNet()", packer.readNet(), 1);
            packer.feed(0x63697263, 0x6c652061, 0x3b636972, 0x636c6520, 0x623b2020);
            is("truncate(0)", packer.truncate(0), 0);
            is("readNet()", packer.readNet(), 0);
        });
        part("Throws IllegalArgumentException if n is negative or greater than the present length", () -> {
            CirclePacker packer = new CirclePacker();
            packer.feed(0, 0, 0, 0, 0);
            packer.truncate(10);
            for (int n : new int[] {-1, 11, 20, 800, Integer.MIN_VALUE, Integer.MAX_VALUE}) {
                argument("truncate(" + n + ")", () -> packer.truncate(n));
            }
            is("truncate(10)", packer.truncate(10), 10);
            is("truncate(0)", packer.truncate(0), 0);
            argument("truncate(1)", () -> packer.truncate(1));
        });
    }

    private static void readings() {
        part("Reads the whole buffer as a net, which replaces all that there is but the saved state and the latest"
                + " report", () -> {
            CirclePacker packer = net(RIGHT);
            packer.lay(0);
            packer.setRadius(0, 5);
            packer.save();
            packer.report();
            Calls.give(packer, "circle z;circle y;circle x;circle w;");
            is("readNet()", packer.readNet(), 4);
            is("the report stays", packer.reportByte(2), '5');
            is("what can be undone goes", packer.undo(), -1);
            same("circles", report(packer), "z 1000\ny 1000\nx 1000\nw 1000\n");
            is("faces", packer.count(1), 0);
            is("neighbors", packer.neighbors(0), 0);
            is("faceAt(0, 1)", packer.faceAt(0, 1), -1);
            is("the saved state stays", packer.restore(), 3);
            is("radius(0)", packer.radius(0), 5);
            is("readNet() of nothing", packer.readNet(), 0);
            is("an empty net replaces, too", packer.count(0), 0);
        });
        part("and empties the buffer, also if the text has an error.", () -> {
            CirclePacker packer = new CirclePacker();
            Calls.give(packer, "circle a;");
            packer.readNet();
            is("feed()", packer.feed(0, 0, 0, 0, 0), 20);
            argument("readNet()", packer::readNet);
            is("feed() behind an error", packer.feed(0, 0, 0, 0, 0), 20);
            argument("runScript()", packer::runScript);
            argument("truncate(1)", () -> packer.truncate(1));
        });
        part("Nothing has a place then.", () -> {
            CirclePacker packer = net(RIGHT);
            packer.lay(0);
            Calls.give(packer, RIGHT);
            packer.readNet();
            for (int c = 0; c < 3; c++) {
                is("isPut(" + c + ")", packer.isPut(c), false);
            }
            is("putAt(0)", packer.putAt(0), -1);
            is("turn()", packer.turn(), 0);
        });
        part("Returns the number of statements.", () -> {
            reads("", 0);
            reads("scale 5;", 1);
            CirclePacker packer = reads(ICOSAHEDRON + "scale 5;", 33);
            Calls.give(packer, "circle a;circle b;");
            is("of each text anew", packer.readNet(), 2);
        });
        part("Returns the code of the error of the latest readNet() or runScript(); 0 if there was none or no such"
                + " call.", () -> {
            CirclePacker packer = new CirclePacker();
            is("errorCode() of a new object", packer.errorCode(), 0);
            packer.feed(0, 0, 0, 0, 0);
            is("errorCode() before a reading", packer.errorCode(), 0);
            argument("readNet()", packer::readNet);
            is("errorCode() of a net", packer.errorCode(), 1);
            packer.truncate(0);
            packer.sweep();
            is("errorCode() behind other calls", packer.errorCode(), 1);
            packer.runScript();
            is("errorCode() of a script", packer.errorCode(), 0);
            Calls.give(packer, "solve x;");
            argument("runScript()", packer::runScript);
            is("errorCode() of a script", packer.errorCode(), 4);
            packer.readNet();
            is("errorCode() of a net", packer.errorCode(), 0);
        });
        part("Returns the position of that error; NONE if there was none or no such call.", () -> {
            CirclePacker packer = new CirclePacker();
            is("errorPosition() of a new object", packer.errorPosition(), -1);
            Calls.give(packer, ";");
            is("errorPosition() before a reading", packer.errorPosition(), -1);
            argument("readNet()", packer::readNet);
            is("errorPosition() of a net", packer.errorPosition(), 0);
            packer.sweep();
            is("errorPosition() behind other calls", packer.errorPosition(), 0);
            packer.runScript();
            is("errorPosition() of a script", packer.errorPosition(), -1);
            Calls.give(packer, "solve x;");
            argument("runScript()", packer::runScript);
            is("errorPosition() of a script", packer.errorPosition(), 6);
            packer.readNet();
            is("errorPosition() of a net", packer.errorPosition(), -1);
        });
    }

    public static void main(String[] args) {
        buffers();
        words();
        statements();
        neighbors();
        errors();
        packers();
        feeds();
        readings();
        end();
    }
}
