/** The edges of layouts, sentence by sentence: section 4 and promises 37 to 52. */
public final class LayoutEdgesTest extends Checks {
    private static final int MOST = 1000000;
    private static final int FAR = 700000000;

    // A net of as many circles as there are radii, with places as a layout from this face gives them.
    private static CirclePacker laid(String faces, int face, int... radii) {
        StringBuilder text = new StringBuilder();
        for (int i = 0; i < radii.length; i++) {
            text.append("circle ").append((char) ('a' + i)).append(';');
        }
        CirclePacker packer = net(text + faces);
        for (int i = 0; i < radii.length; i++) {
            packer.setRadius(i, radii[i]);
        }
        packer.lay(face);
        return packer;
    }

    private static CirclePacker laid(String text) {
        CirclePacker packer = net(text);
        packer.lay(0);
        return packer;
    }

    // Two small circles between two great ones: by the rounding circle 3 is put at the bound, (700000000, 500707).
    private static CirclePacker far() {
        return laid("face a b c;face d c b;", 0, MOST, 1, 1, MOST);
    }

    private static void places(CirclePacker packer, int... xys) {
        for (int c = 0; 2 * c < xys.length; c++) {
            place("circle " + c, packer, c, xys[2 * c], xys[2 * c + 1]);
        }
    }

    private static void order(CirclePacker packer, int... circles) {
        for (int i = 0; i < circles.length; i++) {
            is("putAt(" + i + ")", packer.putAt(i), circles[i]);
        }
        is("putAt() behind them", packer.putAt(circles.length), -1);
    }

    // ---- laying out

    private static void laying() {
        part("A layout begins with a face: its first circle is put at (0, 0), its second one at (r1 + r2, 0).", () -> {
            places(laid("face a b c;", 0, 100, 200, 300), 0, 0, 300, 0, 0, 400);
            places(laid("face b c a;", 0, 100, 200, 300), 180, 240, 0, 0, 500, 0);
            places(laid("face c a b;", 0, 100, 200, 300), 400, 0, 400, 300, 0, 0);
            places(laid("face a b c;face d c b;", 1, 1, 2, 3, 5), 7, 4, 5, 4, 8, 0, 0, 0);
        });
        part("of all faces of which exactly two circles are put, the lowest one is taken and its third circle t is put",
                () -> {
            CirclePacker wheel = net(WHEEL);
            wheel.lay(0);
            order(wheel, 0, 1, 2, 3, 4, 5, 6);
            place("by the face before, not by the last one", wheel, 6, 999, -1730);
            wheel.lay(2);
            order(wheel, 0, 3, 4, 2, 1, 5, 6);
            CirclePacker tetrahedron = laid(TETRAHEDRON);
            order(tetrahedron, 0, 1, 2, 3);
            place("by face 1, not by face 2", tetrahedron, 3, -999, 1732);
            CirclePacker whole = laid(ICOSAHEDRON);
            order(whole, 0, 1, 2, 3, 4, 5, 6, 7, 8, 9, 10, 11);
        });
        part("the same is done at once for the third circle of the face with which the layout begins.", () -> {
            CirclePacker packer = laid("face b a d;face a b c;", 1, 1000, 1000, 1000, 1000);
            order(packer, 0, 1, 2, 3);
            places(packer, 0, 0, 2000, 0, 1000, 1732, 1000, -1732);
        });
        part("with p and q, the circles of the face behind t in cyclic order (first p, then q)", () -> {
            // One triangle upon the side of another, told with each of its circles as the first one.
            for (String face : new String[] {"d c b", "c b d", "b d c"}) {
                CirclePacker packer = laid("face a b c;face " + face + ";", 0, 100, 200, 300, 100);
                places(packer, 0, 0, 300, 0, 0, 400, 384, 288);
            }
        });
        part("here all quotients are rounded towards 0", () -> {
            // (121 - 158) of 22 is -7 and a rest: rounded down it would be -8.
            places(laid("face a b c;", 0, 1, 10, 10), 0, 0, 11, 0, -7, 8);
            CirclePacker wheel = laid(WHEEL);
            place("wheel", wheel, 3, -999, 1732);
            place("wheel", wheel, 4, -1999, 0);
        });
        part("y is 0 if there is nothing to take the root of.", () -> {
            // With radii of 1 and more there is always something: at least 1 is left.
            places(laid("face a b c;", 0, 1, 1, 1), 0, 0, 2, 0, 1, 1);
            places(laid("face a b c;", 0, MOST, MOST, 1), 0, 0, 2000000, 0, MOST, 1414);
            places(laid("face a b c;", 0, 1, MOST, MOST), 0, 0, MOST + 1, 0, -999997, 2828);
        });
        part("A coordinate that would be less than -700000000 or greater than 700000000 is this bound, as the circle is"
                + " put.", LayoutEdgesTest::bounds);
        part("Circles that are not put by this have no place.", () -> {
            CirclePacker packer = laid(TWO_PARTS + "circle g;");
            for (int c = 0; c < 7; c++) {
                is("isPut(" + c + ")", packer.isPut(c), c < 3);
            }
            is("lay(1)", packer.lay(1), 3);
            for (int c = 0; c < 7; c++) {
                is("isPut(" + c + ")", packer.isPut(c), c >= 3 && c < 6);
            }
        });
        part("A layout stays until the next one, also if radii change.", () -> {
            CirclePacker packer = laid("face a b c;", 0, 100, 200, 300);
            packer.setRadius(0, MOST);
            packer.setRadius(1, 1);
            places(packer, 0, 0, 300, 0, 0, 400);
            CirclePacker wheel = laid(WHEEL);
            int x = wheel.x(3);
            wheel.solve(0);
            wheel.sweep();
            wheel.settle(3);
            is("x(3)", wheel.x(3), x);
            is("lay(0)", packer.lay(0), 3);
            place("the next one", packer, 1, MOST + 1, 0);
        });
        part("Lays out the circles, beginning with a face. Returns the number of circles that have places then.", () -> {
            is("3 circles", net(RIGHT + "circle d;").lay(0), 3);
            is("7 circles", net(WHEEL).lay(5), 7);
            is("12 circles", net(ICOSAHEDRON).lay(19), 12);
            for (int face : new int[] {-1, 6, 20, Integer.MIN_VALUE, Integer.MAX_VALUE}) {
                index("lay(" + face + ")", () -> net(WHEEL).lay(face));
            }
            index("lay(0) without faces", () -> new CirclePacker().lay(0));
        });
    }

    private static void bounds() {
        places(far(), 0, 0, MOST + 1, 0, MOST, 1414, FAR, 500707);
        CirclePacker left = laid("face e c b;face b a e;face e a d;", 2, 999999, 1, MOST, MOST, 1);
        places(left, MOST, 0, 1, -1414, -FAR, -500707, -999997, 2828, 0, 0);
        CirclePacker up = laid("face b a c;face b f d;face e a b;face b d e;", 0, 1, 1, 1, 1, MOST, MOST);
        places(up, 2, 0, 0, 0, 1, 1, -1413, -2, 1, -MOST, -1000706, FAR);
        CirclePacker down = laid("face b a c;face a b d;face e b c;", 2, 1, 1, 999999, MOST, 1);
        places(down, 1415, 2, 2, 0, 1, 999999, 1000708, -FAR, 0, 0);
        CirclePacker both = laid("face a e c;face b d e;face d c e;face f e a;", 3, 1, 999999, 999999, 1, 1, 999999);
        places(both, 999999, 1414, -FAR, -FAR, FAR, 500706, 1001407, -988385, MOST, 0, 0, 0);
        CirclePacker other = laid("face d b a;face a b c;face b f e;face e c b;", 0, 2, 1, MOST, 999999, 3, 999999);
        // Circle 2 is far off, but within the bounds.
        places(other, MOST, 1414, MOST, 0, 445377780, -157110482, 0, 0, 777402, -628193, -FAR, FAR);
    }

    private static void circles() {
        part("Returns whether a circle has a place.", () -> {
            CirclePacker packer = net(RIGHT + "circle d;");
            is("before a layout", packer.isPut(0), false);
            packer.lay(0);
            for (int c = 0; c < 4; c++) {
                is("isPut(" + c + ")", packer.isPut(c), c < 3);
            }
            CirclePacker whole = laid(ICOSAHEDRON);
            is("isPut(11)", whole.isPut(11), true);
            index("isPut(12)", () -> whole.isPut(12));
        });
        part("Returns the first coordinate of the place of a circle. Throws IllegalStateException if it has none", () -> {
            CirclePacker packer = net(RIGHT + "circle d;");
            state("before a layout", () -> packer.x(0));
            packer.lay(0);
            is("x(0)", packer.x(0), 0);
            is("x(1)", packer.x(1), 300);
            state("x(3)", () -> packer.x(3));
            index("x(4)", () -> packer.x(4));
            packer.undo();
            state("behind undo()", () -> packer.x(0));
        });
        part("Returns the second coordinate of the place of a circle. Throws IllegalStateException if it has none", () -> {
            CirclePacker packer = net(RIGHT + "circle d;");
            state("before a layout", () -> packer.y(0));
            packer.lay(0);
            is("y(0)", packer.y(0), 0);
            is("y(2)", packer.y(2), 400);
            state("y(3)", () -> packer.y(3));
            index("y(4)", () -> packer.y(4));
            packer.undo();
            state("behind undo()", () -> packer.y(0));
        });
        part("Returns the i-th circle, from 0, that was put by the latest layout; NONE if there are not so many.", () -> {
            CirclePacker packer = net(RIGHT + "circle d;");
            is("before a layout", packer.putAt(0), -1);
            packer.lay(0);
            order(packer, 0, 1, 2);
            for (int i : new int[] {-1, 3, 4, 11, 12, 13, Integer.MIN_VALUE, Integer.MAX_VALUE}) {
                is("putAt(" + i + ")", packer.putAt(i), -1);
            }
            packer.shift(5, 5);
            packer.turn();
            packer.setRadius(0, 7);
            order(packer, 0, 1, 2);
            CirclePacker parts = laid(ICOSAHEDRON);
            is("putAt(11)", parts.putAt(11), 11);
            is("putAt(12)", parts.putAt(12), -1);
            CirclePacker two = laid(TWO_PARTS);
            two.lay(1);
            order(two, 3, 4, 5);
        });
    }

    // ---- gaps and areas

    private static void gaps() {
        part("The gap of two circles that have places is root(dx * dx + dy * dy), dx and dy being the differences of"
                + " their places, less the sum of their radii.", () -> {
            CirclePacker packer = laid(RIGHT);
            is("gap(1, 2)", packer.gap(1, 2), 0);
            packer.setRadius(1, 1);
            is("above 0", packer.gap(1, 2), 199);
            packer.setRadius(1, MOST);
            is("below 0", packer.gap(2, 1), -999800);
            is("to itself", packer.gap(1, 1), -2 * MOST);
            CirclePacker both = laid("face a e c;face b d e;face d c e;face f e a;", 3, 1, 999999, 999999, 1, 1, 999999);
            // 1400000000 to the right and 700500706 up.
            is("the greatest gap", both.gap(1, 2), 1565471570 - 2 * 999999);
            is("the other way", both.gap(2, 1), 1565471570 - 2 * 999999);
        });
        part("Returns the gap of two circles. Throws IllegalStateException if one of them has no place", () -> {
            CirclePacker packer = net(RIGHT + "circle d;");
            state("before a layout", () -> packer.gap(0, 1));
            packer.lay(0);
            is("gap(0, 1)", packer.gap(0, 1), 0);
            state("gap(0, 3)", () -> packer.gap(0, 3));
            state("gap(3, 0)", () -> packer.gap(3, 0));
            state("gap(3, 3)", () -> packer.gap(3, 3));
            index("gap(3, 4)", () -> packer.gap(3, 4));
            index("gap(4, 3)", () -> packer.gap(4, 3));
        });
        part("Returns the greatest gap (without its sign) of two neighbors that have places; NONE if there are no such"
                + " ones.", () -> {
            is("a new object", new CirclePacker().audit(), -1);
            is("before a layout", net(WHEEL).audit(), -1);
            CirclePacker right = laid(RIGHT);
            is("0", right.audit(), 0);
            CirclePacker packer = laid(TRIANGLE + "circle d radius 100000;");
            is("below 0", packer.audit(), 1);
            packer.setRadius(1, 300);
            is("above 0", packer.audit(), 700);
            packer.setRadius(1, 2000);
            is("below 0", packer.audit(), 1001);
            CirclePacker wheel = laid(WHEEL);
            wheel.setRadius(1, 1);
            wheel.setRadius(4, 900000);
            is("of neighbors alone", wheel.audit(), -wheel.gap(3, 4));
            is("far off", far().audit(), 698000177);
        });
        part("Returns 12 * the lower one + the greater one of the two neighbors with the gap that audit() tells, the"
                + " lowest such number of several; NONE if there are none.", () -> {
            is("a new object", new CirclePacker().loosest(), -1);
            is("before a layout", net(WHEEL).loosest(), -1);
            is("all 0", laid(RIGHT).loosest(), 1);
            CirclePacker packer = laid(TRIANGLE);
            is("two equal ones", packer.loosest(), 2);
            packer.setRadius(2, 1001);
            is("two equal ones below 0", packer.loosest(), 2);
            packer.setRadius(1, 500);
            is("one", packer.loosest(), 1);
            packer.setRadius(2, 500);
            is("another", packer.loosest(), 14);
            is("far off, two equal ones", far().loosest(), 15);
            is("the other one", far().gap(2, 3), far().gap(1, 3));
            CirclePacker whole = laid(ICOSAHEDRON);
            int greatest = -1;
            int due = -1;
            for (int a = 0; a < 12; a++) {
                for (int b = a + 1; b < 12; b++) {
                    boolean areNeighbors = whole.faceAt(a, b) >= 0 || whole.faceAt(b, a) >= 0;
                    if (areNeighbors && Math.abs(whole.gap(a, b)) > greatest) {
                        greatest = Math.abs(whole.gap(a, b));
                        due = 12 * a + b;
                    }
                }
            }
            is("of 12 circles", whole.loosest(), due);
            is("of 12 circles", whole.audit(), greatest);
        });
        part("Returns the number of pairs of circles that have places and are not neighbors, whose gap is less than"
                + " -bound.", () -> {
            is("before a layout", net(WHEEL).overlaps(0), 0);
            CirclePacker packer = laid("face a b c;face d c b;", 0, 100, 200, 300, 100);
            // Circles 0 and 3 are not neighbors; they lie at (0, 0) and (384, 288).
            is("gap(0, 3)", packer.gap(0, 3), 280);
            is("overlaps(0)", packer.overlaps(0), 0);
            packer.setRadius(0, 380);
            is("a gap of 0", packer.overlaps(0), 0);
            packer.setRadius(0, 381);
            is("a gap of -1", packer.overlaps(0), 1);
            is("a gap of -bound", packer.overlaps(1), 0);
            packer.setRadius(0, 382);
            is("a gap less than -bound", packer.overlaps(1), 1);
            CirclePacker beside = laid("face a c d;face b d c;", 0, 100, 100, 200, 300);
            beside.setRadius(0, MOST);
            is("circles 0 and 1", beside.overlaps(0), 1);
            CirclePacker right = laid(RIGHT + "circle d;");
            right.setRadius(0, MOST);
            is("neighbors, and one without a place", right.overlaps(0), 0);
            CirclePacker wheel = laid(WHEEL);
            for (int c = 1; c <= 6; c++) {
                wheel.setRadius(c, 10000);
            }
            is("all pairs but the neighbors", wheel.overlaps(0), 9);
        });
        part("bound: 0 to 1000000. Throws IllegalArgumentException if bound is out of range (overlaps)", () -> {
            CirclePacker packer = laid("face a b c;face d c b;", 0, 100, 200, 300, 100);
            packer.setRadius(0, MOST);
            packer.setRadius(3, 480);
            is("a gap of -1000000", packer.overlaps(MOST), 0);
            packer.setRadius(3, 481);
            is("a gap of -1000001", packer.overlaps(MOST), 1);
            for (int bound : new int[] {-1, MOST + 1, Integer.MIN_VALUE, Integer.MAX_VALUE}) {
                argument("overlaps(" + bound + ")", () -> packer.overlaps(bound));
                argument("overlaps(" + bound + ") of a new object", () -> new CirclePacker().overlaps(bound));
            }
        });
    }

    private static void areas() {
        part("The area of a face whose circles have places is (x2 - x1) * (y3 - y1) - (x3 - x1) * (y2 - y1).", () -> {
            CirclePacker packer = laid(RIGHT);
            is("above 0", packer.area(0), 120000);
            packer.turn();
            packer.shift(-1000000, 77);
            is("turned and shifted", packer.area(0), 120000);
            CirclePacker two = laid("face a b c;face a c b;", 0, 1000, 1000, 1000);
            is("below 0", two.area(1), -3464000);
            is("0", flat().area(2), 0);
            is("1", laid("face a b d;face d c a;", 0, 1, 1, 1, 1).area(1), 1);
            is("-1", laid("face a c b;face d a b;face d b c;", 0, 6, 1, 4, 1).area(2), -1);
            CirclePacker far = far();
            // From (700000000, 500707) to (1000000, 1414) and (1000001, 0).
            is("far off", far.area(1), 699000000L * 500707 - 698999999L * 499293);
        });
        part("Returns the area of a face. Throws IllegalStateException if one of its circles has no place", () -> {
            CirclePacker packer = net(TWO_PARTS);
            state("before a layout", () -> packer.area(0));
            packer.lay(1);
            state("area(0)", () -> packer.area(0));
            is("area(1)", packer.area(1), 3464000);
            index("area(2)", () -> packer.area(2));
        });
        part("Returns the number of faces whose area is not positive (of those whose circles have places).", () -> {
            is("a new object", new CirclePacker().flipped(), 0);
            is("before a layout", net(WHEEL).flipped(), 0);
            is("none", laid(WHEEL).flipped(), 0);
            is("an area of 0", flat().flipped(), 1);
            is("an area of 1", laid("face a b d;face d c a;", 0, 1, 1, 1, 1).flipped(), 0);
            is("an area of -1", laid("face a c b;face d a b;face d b c;", 0, 6, 1, 4, 1).flipped(), 1);
            is("a face without places", laid(TWO_PARTS).flipped(), 0);
            CirclePacker two = laid("face a b c;face a c b;", 0, 1000, 1000, 1000);
            is("one of two", two.flipped(), 1);
            two.lay(1);
            is("the other one of two", two.flipped(), 1);
        });
    }

    // Circles 0, 1 and 2 come to lie in a line, and are a face.
    private static CirclePacker flat() {
        return laid("face a b d;face d b c;face c b a;", 0, 1, 1, 5, 5);
    }

    // ---- moving

    private static void moves() {
        part("Shifts all circles that have places. Returns the number of circles that have places.", () -> {
            CirclePacker packer = net(RIGHT + "circle d;");
            is("before a layout", packer.shift(MOST, MOST), 0);
            packer.lay(0);
            is("shift(5, -7)", packer.shift(5, -7), 3);
            places(packer, 5, -7, 305, -7, 5, 393);
            is("isPut(3)", packer.isPut(3), false);
            is("shift(0, 0)", packer.shift(0, 0), 3);
            places(packer, 5, -7, 305, -7, 5, 393);
            is("12 circles", laid(ICOSAHEDRON).shift(1, 1), 12);
        });
        part("dx: -1000000 to 1000000, added to the first coordinates; dy: -1000000 to 1000000, added to the second"
                + " coordinates. Throws IllegalArgumentException if dx or dy is out of range", () -> {
            CirclePacker packer = laid(RIGHT);
            is("the greatest ones", packer.shift(MOST, -MOST), 3);
            places(packer, MOST, -MOST, MOST + 300, -MOST, MOST, -MOST + 400);
            is("the least ones", packer.shift(-MOST, MOST), 3);
            places(packer, 0, 0, 300, 0, 0, 400);
            for (int d : new int[] {MOST + 1, -MOST - 1, Integer.MAX_VALUE, Integer.MIN_VALUE}) {
                argument("dx " + d, () -> packer.shift(d, 0));
                argument("dy " + d, () -> packer.shift(0, d));
                argument("both " + d, () -> packer.shift(d, d));
                argument("before a layout", () -> new CirclePacker().shift(d, 0));
            }
            places(packer, 0, 0, 300, 0, 0, 400);
        });
        part("Throws IllegalStateException if a coordinate would be less than -1000000000 or greater than 1000000000",
                LayoutEdgesTest::farShifts);
        part("Turns all places by a quarter around (0, 0): (x, y) becomes (-y, x). @return the number of circles that"
                + " have places", () -> {
            is("a new object", new CirclePacker().turn(), 0);
            CirclePacker packer = net(RIGHT + "circle d;");
            is("before a layout", packer.turn(), 0);
            packer.lay(0);
            packer.shift(10, -20);
            is("turn()", packer.turn(), 3);
            places(packer, 20, 10, 20, 310, -380, 10);
            packer.turn();
            places(packer, -10, 20, -310, 20, -10, -380);
            packer.turn();
            packer.turn();
            places(packer, 10, -20, 310, -20, 10, 380);
            is("isPut(3)", packer.isPut(3), false);
            is("12 circles", laid(ICOSAHEDRON).turn(), 12);
        });
    }

    // 300 shifts from the bound of a layout to that of a shift, in each of four directions.
    private static void farShifts() {
        int[] x = {1, 0, -1, 0};
        int[] y = {0, 1, 0, -1};
        for (int quarter = 0; quarter < 4; quarter++) {
            CirclePacker packer = far();
            for (int i = 0; i < quarter; i++) {
                packer.turn();
            }
            int dx = x[quarter];
            int dy = y[quarter];
            for (int i = 0; i < 299; i++) {
                packer.shift(MOST * dx, MOST * dy);
            }
            is("to 1 before the bound", packer.shift((MOST - 1) * dx, (MOST - 1) * dy), 4);
            int beside = packer.x(0);
            state("to 1 beyond the bound", () -> packer.shift(2 * dx, 2 * dy));
            state("far beyond the bound", () -> packer.shift(MOST * dx, MOST * dy));
            is("no circle is shifted", packer.x(0), beside);
            is("undo() counts 5", packer.undo(), 4);
            is("to the bound", packer.shift(MOST * dx, MOST * dy), 4);
            is("the coordinate", dx != 0 ? packer.x(3) : packer.y(3), 1000000000 * (dx + dy));
            is("aside", packer.shift(-5 * dy, 5 * dx), 4);
            state("beyond the bound", () -> packer.shift(dx, dy));
            is("back", packer.shift(-dx, -dy), 4);
        }
        CirclePacker first = laid("face d b c;face a c b;", 0, MOST, 1, 1, MOST);
        for (int i = 0; i < 300; i++) {
            first.shift(MOST, 0);
        }
        is("x(0)", first.x(0), 1000000000);
        state("circle 0 beyond the bound", () -> first.shift(1, 0));
    }

    // ---- points

    private static void points() {
        part("what: 0 the least x - radius, 1 the least y - radius, 2 the greatest x + radius, 3 the greatest y +"
                + " radius, of circles that have places", () -> {
            CirclePacker packer = laid(RIGHT + "circle d radius 100000;");
            int[] due = {-300, -200, 500, 700};
            for (int what = 0; what < 4; what++) {
                is("box(" + what + ")", packer.box(what), due[what]);
            }
            packer.setRadius(1, MOST);
            packer.setRadius(0, 1);
            int[] greater = {-999700, -MOST, 1000300, MOST};
            for (int what = 0; what < 4; what++) {
                is("box(" + what + ")", packer.box(what), greater[what]);
            }
            packer.setRadius(1, 1);
            packer.setRadius(0, MOST);
            int[] first = {-MOST, -MOST, MOST, MOST};
            for (int what = 0; what < 4; what++) {
                is("box(" + what + ") by circle 0", packer.box(what), first[what]);
            }
            packer.setRadius(0, 1);
            packer.setRadius(2, 1);
            packer.shift(1000, 2000);
            int[] shifted = {999, 1999, 1301, 2401};
            for (int what = 0; what < 4; what++) {
                is("box(" + what + ") shifted", packer.box(what), shifted[what]);
            }
            CirclePacker far = far();
            for (int i = 0; i < 300; i++) {
                far.shift(MOST, 0);
            }
            is("the greatest box(2)", far.box(2), 1001000000);
            far.turn();
            is("the greatest box(3)", far.box(3), 1001000000);
            far.turn();
            is("the least box(0)", far.box(0), -1001000000);
            far.turn();
            is("the least box(1)", far.box(1), -1001000000);
        });
        part("Throws IllegalStateException if no circle has a place", () -> {
            CirclePacker packer = net(RIGHT);
            for (int what = 0; what < 4; what++) {
                int w = what;
                state("box(" + what + ")", () -> packer.box(w));
                state("box(" + what + ") of a new object", () -> new CirclePacker().box(w));
            }
        });
        part("Throws IllegalArgumentException if what is out of range", () -> {
            CirclePacker packer = net(RIGHT);
            for (int what : new int[] {-1, 4, Integer.MIN_VALUE, Integer.MAX_VALUE}) {
                argument("box(" + what + ") before a layout", () -> packer.box(what));
                argument("box(" + what + ") with places", () -> laid(RIGHT).box(what));
            }
        });
        part("Returns the lowest circle that has a place and in which, or on the edge of which, a point lies", () -> {
            CirclePacker packer = laid(RIGHT + "circle d radius 100000;");
            is("the middle", packer.at(0, 0), 0);
            is("where two touch", packer.at(100, 0), 0);
            is("1 beside it", packer.at(101, 0), 1);
            packer.setRadius(2, 1000);
            is("in three", packer.at(50, 0), 0);
            is("in two", packer.at(200, 0), 1);
            is("in one", packer.at(-200, 0), 2);
            packer.setRadius(3, MOST);
            is("a circle without a place", packer.at(5000, 5000), -1);
            is("the last circle of 12", laid(ICOSAHEDRON).at(laid(ICOSAHEDRON).x(11), laid(ICOSAHEDRON).y(11)) >= 0, true);
        });
        part("the square of its distance from the place is not greater than the square of the radius", () -> {
            CirclePacker packer = laid(RIGHT);
            int[] signs = {1, -1};
            packer.setRadius(1, 1);
            packer.setRadius(2, 1);
            for (int sx : signs) {
                for (int sy : signs) {
                    is("on the edge", packer.at(60 * sx, 80 * sy), 0);
                    is("1 beyond it", packer.at(61 * sx, 80 * sy), -1);
                    is("1 beyond it", packer.at(60 * sx, 81 * sy), -1);
                }
                is("on the edge", packer.at(100 * sx, 0), 0);
                is("1 beyond it", packer.at(101 * sx, 0), -1);
                is("on the edge", packer.at(0, 100 * sx), 0);
                is("1 beyond it", packer.at(0, 101 * sx), -1);
            }
            packer.setRadius(0, MOST);
            is("on a great edge", packer.at(600000, -800000), 0);
            is("1 beyond it", packer.at(600000, -800001), -1);
            is("1 beyond it", packer.at(-MOST - 1, 0), -1);
        });
        part("NONE if there is none. (at)", () -> {
            is("a new object", new CirclePacker().at(0, 0), -1);
            is("before a layout", net(WHEEL).at(0, 0), -1);
            CirclePacker packer = laid(RIGHT);
            int[] ends = {Integer.MIN_VALUE, -2000000000, -65536, 65536, 2000000000, Integer.MAX_VALUE};
            for (int x : ends) {
                is("at(" + x + ", 0)", packer.at(x, 0), -1);
                is("at(0, " + x + ")", packer.at(0, x), -1);
                for (int y : ends) {
                    is("at(" + x + ", " + y + ")", packer.at(x, y), -1);
                }
            }
            CirclePacker far = far();
            for (int i = 0; i < 300; i++) {
                far.shift(MOST, 0);
            }
            is("in the far circle", far.at(1000000000, 500707), 3);
            is("the square of the distance is beyond all longs", far.at(Integer.MIN_VALUE, 500707), -1);
            far.turn();
            is("the square of the distance is beyond all longs", far.at(-500707, Integer.MIN_VALUE), -1);
            far.turn();
            is("the square of the distance is beyond all longs", far.at(Integer.MAX_VALUE, -500707), -1);
            far.turn();
            is("the square of the distance is beyond all longs", far.at(500707, Integer.MAX_VALUE), -1);
        });
        part("Returns where two circles touch: the first (0) or second (1) coordinate u1 + (u2 - u1) * r1 / (r1 + r2),"
                + " rounded towards 0 where it is divided, u1 and r1 being those of the first circle.", () -> {
            CirclePacker packer = laid(RIGHT);
            is("touch(0, 1, 0)", packer.touch(0, 1, 0), 100);
            is("touch(0, 1, 1)", packer.touch(0, 1, 1), 0);
            is("touch(1, 2, 0)", packer.touch(1, 2, 0), 180);
            is("touch(1, 2, 1)", packer.touch(1, 2, 1), 160);
            is("touch(2, 1, 1)", packer.touch(2, 1, 1), 160);
            packer.setRadius(0, 101);
            // 300 * 200 of 301 is 199 and a rest, 300 * 101 of 301 is 100 and a rest: rounded towards 0 both ways.
            is("a quotient below 0", packer.touch(1, 0, 0), 300 - 199);
            is("a quotient above 0", packer.touch(0, 1, 0), 100);
            packer.shift(-1000, 0);
            is("a sum below 0", packer.touch(0, 1, 0), -900);
            is("far off", far().touch(1, 3, 0), MOST + 1 + 698);
            is("far off", far().touch(3, 1, 0), FAR - 698999300);
            CirclePacker great = laid("face a e c;face b d e;face d c e;face f e a;", 3, 1, 999999, 999999, 1, 1, 999999);
            great.setRadius(3, MOST);
            is("the greatest product", great.touch(1, 3, 0), -FAR + (int) (701001407L * 999999 / 1999999));
        });
        part("what: 0 or 1. Throws IllegalArgumentException if what is out of range, or they are no neighbors", () -> {
            CirclePacker packer = laid(WHEEL + "circle v;");
            for (int what : new int[] {-1, 2, Integer.MIN_VALUE, Integer.MAX_VALUE}) {
                argument("touch(0, 1, " + what + ")", () -> packer.touch(0, 1, what));
            }
            for (int what = 0; what < 2; what++) {
                int w = what;
                argument("circles apart", () -> packer.touch(1, 3, w));
                argument("a circle and itself", () -> packer.touch(1, 1, w));
                argument("one alone", () -> packer.touch(1, 7, w));
                argument("one alone", () -> packer.touch(7, 1, w));
                is("a side that stands the other way", packer.touch(2, 1, w), packer.touch(1, 2, w), 1);
            }
        });
        part("Throws IllegalStateException if one of them has no place (touch)", () -> {
            CirclePacker packer = net(TWO_PARTS);
            state("before a layout", () -> packer.touch(0, 1, 0));
            packer.lay(1);
            state("the other part", () -> packer.touch(0, 1, 1));
            is("with places", packer.touch(3, 4, 0), 1000);
            argument("no neighbors come first", () -> packer.touch(0, 3, 0));
            argument("a wrong what comes first", () -> packer.touch(0, 1, 2));
            index("a wrong circle comes first", () -> packer.touch(0, 6, 2));
        });
    }

    // Two answers that may differ by this much.
    private static void is(String what, long got, long due, long most) {
        is(what + " is near", Math.abs(got - due) <= most, true);
    }

    public static void main(String[] args) {
        laying();
        circles();
        gaps();
        areas();
        moves();
        points();
        end();
    }
}
