import java.util.function.IntBinaryOperator;

/** The edges of the answers about the net, sentence by sentence: promises 8 to 19. */
public final class NetAnswersEdgesTest extends Checks {
    private static final int[] NEGATIVE = {Integer.MIN_VALUE, -2147483647, -13, -1};
    // A band has two borders.
    private static final String BAND = "circle a;circle b;circle c;circle d radius 2000;circle e;circle f;"
            + "face a d e;face a e b;face b e f;face b f c;face c f d;face c d a;";
    // A row of triangles: each circle is in its border.
    private static final String STRIP = "circle a;circle b;circle c;circle d;circle e;circle f;circle g;circle h;"
            + "circle i;circle j;circle k;circle l;face l k j;face j k i;face j i h;face h i g;face h g f;face f g e;"
            + "face f e d;face d e c;face d c b;face b c a;";

    private static void counts(String text, int... due) {
        CirclePacker packer = net(text);
        for (int what = 0; what < 6; what++) {
            is("count(" + what + ") of " + text, packer.count(what), due[what]);
        }
    }

    private static void none(String what, int circle, IntBinaryOperator call, int number) {
        for (int i : NEGATIVE) {
            is(what + " " + i, call.applyAsInt(circle, i), -1);
        }
        for (int i : new int[] {number, number + 1, 12, 13, 144, Integer.MAX_VALUE}) {
            is(what + " " + i, call.applyAsInt(circle, i), -1);
        }
        if (number > 0) {
            is(what + " " + (number - 1), call.applyAsInt(circle, number - 1) >= 0, true);
        }
    }

    private static void circles() {
        part("what: 0 circles, 1 faces, 2 pairs of neighbors, 3 inner circles, 4 outer circles, 5 free circles", () -> {
            counts("", 0, 0, 0, 0, 0, 0);
            counts("circle a;", 1, 0, 0, 0, 0, 1);
            counts("circle a radius 5;", 1, 0, 0, 0, 0, 0);
            counts(TRIANGLE, 3, 1, 3, 0, 3, 0);
            counts(ICOSAHEDRON, 12, 20, 30, 12, 0, 12);
            counts(WHEEL + "circle v;", 8, 6, 12, 1, 6, 2);
            counts("circle a;circle b;circle c;face a b c;face a c b;", 3, 2, 3, 3, 0, 3);
            counts(BAND, 6, 6, 12, 0, 6, 5);
        });
        part("Returns their number. Throws IllegalArgumentException if what is out of range", () -> {
            CirclePacker packer = net(WHEEL);
            for (int what : new int[] {-1, 6, Integer.MIN_VALUE, Integer.MAX_VALUE}) {
                argument("count(" + what + ")", () -> packer.count(what));
                argument("count(" + what + ") of a new object", () -> new CirclePacker().count(what));
            }
        });
        part("Returns 0 for an inner circle, 1 for an outer one, 2 for one without neighbors.", () -> {
            CirclePacker packer = net(WHEEL + "circle v;");
            is("kind(0)", packer.kind(0), 0);
            is("kind(1)", packer.kind(1), 1);
            is("kind(7)", packer.kind(7), 2);
            is("a ring of 2", net("circle a;circle b;circle c;face a b c;face a c b;").kind(2), 0);
            is("a row of 2", net(TRIANGLE).kind(2), 1);
        });
        part("Returns the degrees that are wanted around a circle; 0 if it is fixed.", () -> {
            CirclePacker packer = net("circle a angle 1;circle b angle 1800;circle c;circle d radius 1;");
            int[] due = {1, 1800, 360, 0};
            for (int c = 0; c < 4; c++) {
                is("degrees(" + c + ")", packer.degrees(c), due[c]);
            }
            packer.setRadius(0, 7);
            packer.setRadius(3, 7);
            is("degrees(0)", packer.degrees(0), 1);
            is("degrees(3)", packer.degrees(3), 0);
        });
        part("Returns the number of neighbors of a circle.", () -> {
            CirclePacker packer = net(WHEEL + "circle v;");
            is("neighbors(0)", packer.neighbors(0), 6);
            is("neighbors(1)", packer.neighbors(1), 3);
            is("neighbors(7)", packer.neighbors(7), 0);
            is("11 neighbors", most().neighbors(0), 11);
        });
        part("neighbor i of a circle, from 0: of an outer circle in its row, beginning with the one that follows none",
                () -> {
            CirclePacker packer = net(WHEEL);
            int[] due = {3, 0, 1};
            for (int i = 0; i < 3; i++) {
                is("neighbor(2, " + i + ")", packer.neighbor(2, i), due[i]);
            }
            CirclePacker row = most();
            for (int i = 0; i < 11; i++) {
                is("neighbor(0, " + i + ")", row.neighbor(0, i), 1 + (i + 5) % 11);
            }
        });
        part("of an inner one in its ring, beginning with the lowest one", () -> {
            CirclePacker back = net("circle o;circle p;circle q;circle r;face o r q;face o q p;face p r o;");
            int[] ring = {1, 3, 2};
            for (int i = 0; i < 3; i++) {
                is("neighbor(0, " + i + ")", back.neighbor(0, i), ring[i]);
            }
            CirclePacker whole = net(ICOSAHEDRON);
            int[] last = {6, 10, 9, 8, 7};
            for (int i = 0; i < 5; i++) {
                is("neighbor(11, " + i + ")", whole.neighbor(11, i), last[i]);
            }
        });
        part("NONE if there is none.", () -> {
            CirclePacker packer = net(WHEEL + "circle v;");
            none("neighbor 0", 0, packer::neighbor, 6);
            none("neighbor 2", 2, packer::neighbor, 3);
            none("neighbor 7", 7, packer::neighbor, 0);
            CirclePacker row = most();
            none("neighbor of 11", 0, row::neighbor, 11);
            none("neighbor of the last one", 11, row::neighbor, 3);
        });
        part("corner: 0 to 2. Returns this circle of a face. Throws IllegalArgumentException if corner is out of range",
                () -> {
            CirclePacker packer = net("circle a;circle b;circle c;circle d;face b c a;face d a c;");
            int[] due = {1, 2, 0, 3, 0, 2};
            for (int i = 0; i < 6; i++) {
                is("corner()", packer.corner(i / 3, i % 3), due[i]);
            }
            for (int corner : new int[] {-1, 3, Integer.MIN_VALUE, Integer.MAX_VALUE}) {
                argument("corner(0, " + corner + ")", () -> packer.corner(0, corner));
                argument("corner(1, " + corner + ")", () -> packer.corner(1, corner));
            }
        });
        part("Returns the face that has the directed side from a circle to another one; NONE if there is none.", () -> {
            CirclePacker packer = net(WHEEL + "circle v;");
            is("faceAt(0, 1)", packer.faceAt(0, 1), 0);
            is("faceAt(0, 6)", packer.faceAt(0, 6), 5);
            is("faceAt(1, 0)", packer.faceAt(1, 0), 5);
            is("faceAt(2, 1): the side stands the other way", packer.faceAt(2, 1), -1);
            is("faceAt(1, 4): no neighbors", packer.faceAt(1, 4), -1);
            is("faceAt(0, 0)", packer.faceAt(0, 0), -1);
            is("faceAt(7, 7)", packer.faceAt(7, 7), -1);
            is("faceAt(7, 0)", packer.faceAt(7, 0), -1);
            is("faceAt(11, 10) of 20 faces", net(ICOSAHEDRON).faceAt(11, 10), 18);
            is("faceAt(6, 11) of 20 faces", net(ICOSAHEDRON).faceAt(6, 11), 15);
        });
    }

    // An open row of 11 neighbors around circle 0 that begins with circle 6.
    private static CirclePacker most() {
        StringBuilder text = new StringBuilder();
        for (char c = 'a'; c <= 'l'; c++) {
            text.append("circle ").append(c).append(';');
        }
        for (int i = 0; i < 10; i++) {
            text.append("face a ").append((char) ('b' + (i + 5) % 11)).append(' ').append((char) ('b' + (i + 6) % 11))
                    .append(';');
        }
        return net(text.toString());
    }

    private static void ways() {
        part("Returns the least number of steps from a circle to another one, each to a neighbor", () -> {
            CirclePacker strip = net(STRIP);
            for (int c = 0; c < 12; c++) {
                is("steps(0, " + c + ")", strip.steps(0, c), (c + 1) / 2);
                is("steps(11, " + c + ")", strip.steps(11, c), (12 - c) / 2);
                is("steps(" + c + ", 11)", strip.steps(c, 11), (12 - c) / 2);
                is("steps() to itself", strip.steps(c, c), 0);
            }
            strip.setRadius(2, 1000000);
            is("radii do not count", strip.steps(0, 4), 2);
        });
        part("NONE if there is no way. (steps)", () -> {
            CirclePacker parts = net(TWO_PARTS + "circle g;");
            is("steps(0, 3)", parts.steps(0, 3), -1);
            is("steps(5, 2)", parts.steps(5, 2), -1);
            is("steps(0, 6)", parts.steps(0, 6), -1);
            is("steps(6, 0)", parts.steps(6, 0), -1);
            is("steps(6, 6)", parts.steps(6, 6), 0);
        });
        part("Returns the number of parts of the net; circles are in one part if there is a way between them.", () -> {
            is("parts() of an empty net", new CirclePacker().parts(), 0);
            is("parts() of one circle", net("circle a;").parts(), 1);
            is("parts() of 12 circles alone", net("circle a;circle b;circle c;circle d;circle e;circle f;circle g;"
                    + "circle h;circle i;circle j;circle k;circle l;").parts(), 12);
            is("parts() of a strip", net(STRIP).parts(), 1);
            is("parts()", net(TWO_PARTS).parts(), 2);
            is("parts()", net(TWO_PARTS + "circle g;").parts(), 3);
            is("parts() with circles in turns",
                    net("circle a;circle b;circle c;circle d;circle e;circle f;face a c e;face f d b;").parts(), 2);
        });
        part("the outer circles that one comes to by going from each one to its last neighbor (the last one in its row),"
                + " beginning with this circle, until one comes to this circle again", () -> {
            CirclePacker packer = net(WHEEL);
            for (int c = 1; c <= 6; c++) {
                for (int i = 0; i < 6; i++) {
                    is("border(" + c + ", " + i + ")", packer.border(c, i), 1 + (c + 5 - i) % 6);
                }
            }
            CirclePacker band = net(BAND);
            int[][] due = {{0, 1, 2}, {3, 5, 4}};
            for (int[] border : due) {
                for (int i = 0; i < 3; i++) {
                    is("border() of a band", band.border(border[0], i), border[i]);
                    is("border() of a band", band.border(border[2], i), border[(i + 2) % 3]);
                }
            }
        });
        part("NONE if there are not so many, or the circle is no outer one.", () -> {
            CirclePacker packer = net(WHEEL + "circle v;");
            none("border 1", 1, packer::border, 6);
            none("border 0", 0, packer::border, 0);
            none("border 7", 7, packer::border, 0);
            none("border of 3", 2, net(TRIANGLE)::border, 3);
            none("border of 12", 0, net(STRIP)::border, 12);
            none("border without one", 0, net(ICOSAHEDRON)::border, 0);
        });
        part("Returns the sum of the radii of each two circles that stand side by side in the border of a circle (the"
                + " last one and the first one, too); 0 if it is no outer one.", () -> {
            is("perimeter(0)", net(RIGHT).perimeter(0), 1200);
            is("perimeter(2)", net(RIGHT).perimeter(2), 1200);
            CirclePacker packer = net(WHEEL + "circle v;");
            is("perimeter(0)", packer.perimeter(0), 0);
            is("perimeter(7)", packer.perimeter(7), 0);
            packer.setRadius(0, 1000000);
            is("perimeter(1)", packer.perimeter(1), 12000);
            CirclePacker band = net(BAND);
            is("perimeter(0)", band.perimeter(0), 6000);
            is("perimeter(5)", band.perimeter(5), 8000);
            CirclePacker strip = net(STRIP);
            for (int c = 0; c < 12; c++) {
                strip.setRadius(c, 1000000);
            }
            is("perimeter() of the greatest circles", strip.perimeter(0), 24000000);
        });
        part("Returns the least length of a way from a circle to another one, where each step to a neighbor has the sum"
                + " of both radii as its length", () -> {
            CirclePacker packer = net(WHEEL);
            is("distance(1, 4) across", packer.distance(1, 4), 4000);
            packer.setRadius(0, 2001);
            is("distance(1, 4) around", packer.distance(1, 4), 6000);
            packer.setRadius(0, 1999);
            is("distance(1, 4) across", packer.distance(1, 4), 5998);
            packer.setRadius(0, 1000000);
            is("distance(1, 3) around", packer.distance(1, 3), 4000);
            is("distance(1, 0)", packer.distance(1, 0), 1001000);
            CirclePacker strip = net(STRIP);
            for (int c = 0; c < 12; c++) {
                strip.setRadius(c, 1000000);
            }
            is("distance(0, 11) of the greatest circles", strip.distance(0, 11), 12000000);
            is("distance(11, 0) of the greatest circles", strip.distance(11, 0), 12000000);
        });
        part("0 to itself; NONE if there is no way. (distance)", () -> {
            CirclePacker parts = net(TWO_PARTS + "circle g;");
            for (int c = 0; c < 7; c++) {
                is("distance(" + c + ", " + c + ")", parts.distance(c, c), 0);
            }
            is("distance(0, 3)", parts.distance(0, 3), -1);
            is("distance(6, 0)", parts.distance(6, 0), -1);
            is("distance(0, 6)", parts.distance(0, 6), -1);
        });
    }

    public static void main(String[] args) {
        circles();
        ways();
        end();
    }
}
