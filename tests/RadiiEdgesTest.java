/** The edges of angles, radii and bounds, sentence by sentence: sections 2 and 3 and promises 20 to 36. */
public final class RadiiEdgesTest extends Checks {
    private static final int MOST = 1000000;
    private static final long S = 1000000000L;
    private static final long TURN = 6283185307L;
    private static final String TWO_FREE = "circle a angle 50;circle b angle 40;circle c radius 1000;face a b c;";

    private static CirclePacker triangle(int a, int b, int c) {
        CirclePacker packer = net(RIGHT);
        packer.setRadius(0, a);
        packer.setRadius(1, b);
        packer.setRadius(2, c);
        return packer;
    }

    // A free circle that asks for this angle in one face with circles of these radii.
    private static CirclePacker asking(int degrees, int b, int c) {
        CirclePacker packer = net("circle a angle " + degrees + ";circle b;circle c;face a b c;");
        packer.setRadius(1, b);
        packer.setRadius(2, c);
        return packer;
    }

    // By halving, not by steps: the greatest number whose square is not greater than n.
    private static long root(long n) {
        long low = 0;
        long high = 3037000499L;
        while (low < high) {
            long middle = (low + high + 1) / 2;
            if (middle * middle <= n) {
                low = middle;
            } else {
                high = middle - 1;
            }
        }
        return low;
    }

    private static long angle(long r, long a, long b) {
        long w = S - Math.floorDiv(Math.floorDiv(2 * S * a, r + a) * b, r + b);
        for (int i = 1; i <= 6; i++) {
            w = root(Math.floorDiv((S + w) * S, 2));
        }
        return 64 * root(2 * S * (S - w));
    }

    // ---- angles

    private static void angles() {
        part("root(n) is the greatest whole number whose square is not greater than n.", () -> {
            is("root of 2000", root(2000), 44);
            // 1732 * 1732 + 1000 * 1000 is less than 2000 * 2000, 300 * 300 + 400 * 400 is 500 * 500.
            CirclePacker packer = net(TRIANGLE);
            packer.lay(0);
            is("gap(0, 2)", packer.gap(0, 2), -1);
            CirclePacker right = net(RIGHT);
            right.lay(0);
            is("gap(1, 2)", right.gap(1, 2), 0);
            // A circle of radius 1 between two others: the square of its height is 3, its root 1.
            CirclePacker small = triangle(1, 1, 1);
            small.lay(0);
            place("small", small, 2, 1, 1);
            is("root of 2", small.gap(0, 2), -1);
        });
        part("All quotients are rounded down, except where something else is said.", () -> {
            is("10 before 28", triangle(1, 10, 28).angle(0, 0), 2427048384L);
            is("28 before 10", triangle(1, 28, 10).angle(0, 0), 2427046720L);
        });
        part("w = S - ((2 * S * a) / (r + a)) * b / (r + b) (the product is divided); then six times: w becomes"
                + " root((S + w) * S / 2); the angle is 64 * root(2 * S * (S - w)).", () -> {
            is("equal radii", triangle(1000, 1000, 1000).angle(0, 0), 1047189376L);
            is("a right angle", triangle(100, 200, 300).angle(0, 0), 1570758656L);
            int[] radii = {1, 2, 3, 7, 100, 999, 1000, 50558, 100000, 999999, MOST};
            for (int r : radii) {
                for (int a : radii) {
                    for (int b : radii) {
                        is("angle at " + r + " with " + a + " and " + b, triangle(r, a, b).angle(0, 0), angle(r, a, b));
                    }
                }
            }
            is("the least angle", triangle(MOST, 1, 1).angle(0, 0), 0);
            is("the greatest angle", triangle(1, MOST, MOST).angle(0, 0), angle(1, MOST, MOST));
        });
        part("(Next is meant in the order in which the face's circles stand, cyclically.)", () -> {
            CirclePacker packer = triangle(1, 10, 28);
            is("corner 0", packer.angle(0, 0), angle(1, 10, 28));
            is("corner 1", packer.angle(0, 1), angle(10, 28, 1));
            is("corner 2", packer.angle(0, 2), angle(28, 1, 10));
            CirclePacker turned = net("circle a radius 1;circle b radius 10;circle c radius 28;face b c a;");
            is("corner 2 of another", turned.angle(0, 2), 2427048384L);
            CirclePacker back = net("circle a radius 1;circle b radius 10;circle c radius 28;face a c b;");
            is("the other way round", back.angle(0, 0), 2427046720L);
        });
        part("Returns the angle at this circle of a face. Throws IllegalArgumentException if corner is out of range",
                () -> {
            CirclePacker packer = net(RIGHT);
            for (int corner : new int[] {-1, 3, Integer.MIN_VALUE, Integer.MAX_VALUE}) {
                argument("angle(0, " + corner + ")", () -> packer.angle(0, corner));
            }
        });
    }

    // An open row or a ring of 11 circles of radius 1000 around circle 0 of radius 1.
    private static CirclePacker around(boolean isRing) {
        StringBuilder text = new StringBuilder("circle a radius 1;");
        for (char c = 'b'; c <= 'l'; c++) {
            text.append("circle ").append(c).append(';');
        }
        for (int i = 0; i < (isRing ? 11 : 10); i++) {
            text.append("face a ").append((char) ('b' + i)).append(' ').append((char) ('b' + (i + 1) % 11)).append(';');
        }
        return net(text.toString());
    }

    private static void sums() {
        part("The sum of a circle is the sum of the angles at it in all of its faces.", () -> {
            is("no face", net("circle a;").sum(0), 0);
            is("one face", net(RIGHT).sum(0), 1570758656L);
            is("two faces of the same circles", net("circle a radius 100;circle b radius 200;circle c radius 300;"
                    + "face a b c;face a c b;").sum(0), 2 * 1570758656L);
            is("six faces", net(WHEEL).sum(0), 6283136256L);
            is("10 faces in a row", around(false).sum(0), 10 * angle(1, 1000, 1000));
            is("11 faces in a ring", around(true).sum(0), 11 * angle(1, 1000, 1000));
            is("2 faces on the way", around(false).sum(5), 2 * Math.max(angle(1000, 1, 1000), angle(1000, 1000, 1)));
            CirclePacker mixed = net("circle a radius 1;circle b radius 10;circle c radius 28;circle d radius 10;"
                    + "face a b c;face a c d;");
            is("each in its order", mixed.sum(0), 2427048384L + 2427046720L);
        });
        part("Its target, if it is free, is degrees * 6283185307 / 360.", () -> {
            is("1 degree", net("circle a angle 1;").defect(0), 17453292);
            is("1800 degrees", net("circle a angle 1800;").defect(0), 31415926535L);
            is("360 degrees", net("circle a;").defect(0), TURN);
            for (int degrees = 1; degrees <= 1800; degrees++) {
                is(degrees + " degrees", net("circle a angle " + degrees + ";").defect(0),
                        Math.floorDiv(degrees * TURN, 360L));
            }
        });
        part("Its defect is the target less the sum.", () -> {
            CirclePacker packer = net(WHEEL);
            is("above 0", packer.defect(0), 49051);
            packer.setRadius(0, 900);
            is("below 0", packer.defect(0), TURN - packer.sum(0));
            is("it is below 0", packer.defect(0) < 0, true);
            is("0", net(EXACT).defect(0), 0);
        });
        part("Returns the defect of a free circle. Throws IllegalStateException if it is fixed", () -> {
            CirclePacker packer = net(WHEEL + "circle v radius 5;");
            is("a free one", packer.defect(0), 49051);
            state("a fixed one", () -> packer.defect(1));
            state("a fixed one without a face", () -> packer.defect(7));
        });
        part("Returns the free circle whose defect is greatest (without its sign), the lowest one of several; NONE if"
                + " there is no free circle.", () -> {
            is("a new object", new CirclePacker().worst(), -1);
            is("fixed ones", net(TRIANGLE).worst(), -1);
            is("one free one", net(TRIANGLE + "circle d angle 1;").worst(), 3);
            is("a defect of 0", net(EXACT).worst(), 0);
            is("equal ones", net("circle a radius 5;circle b angle 5;circle c angle 5;").worst(), 1);
            is("the last one", net("circle a angle 5;circle b angle 5;circle c angle 6;").worst(), 2);
            // One degree too much around a circle counts as one too few.
            CirclePacker packer = net("circle v angle 1;" + WHEEL);
            is("a small defect", packer.worst(), 0);
            packer.setRadius(1, 900);
            is("one below 0", packer.worst(), 1);
            CirclePacker first = net(WHEEL + "circle v angle 1;");
            first.setRadius(0, 900);
            is("one below 0 before a smaller one", first.worst(), 0);
        });
        part("Returns the sum of all defects (without their signs) of free circles.", () -> {
            is("a new object", new CirclePacker().unrest(), 0);
            is("fixed ones", net(TRIANGLE).unrest(), 0);
            is("one of 0", net(EXACT).unrest(), 0);
            CirclePacker packer = net(WHEEL + "circle v angle 1;");
            is("two", packer.unrest(), 49051 + 17453292);
            packer.setRadius(0, 900);
            is("one below 0", packer.unrest(), packer.sum(0) - TURN + 17453292);
            StringBuilder twelve = new StringBuilder();
            for (char c = 'a'; c <= 'l'; c++) {
                twelve.append("circle ").append(c).append(" angle 1800;");
            }
            is("the greatest one", net(twelve.toString()).unrest(), 12 * 31415926535L);
        });
        part("Returns the sum of the sums of all circles, less 3141592653 for each face.", () -> {
            is("a new object", new CirclePacker().closure(), 0);
            is("no face", net("circle a;circle b radius 5;").closure(), 0);
            is("one face", net(TRIANGLE + "circle d;").closure(), -24525);
            is("six faces", net(WHEEL).closure(), 6283136256L + 6 * 2094378752L - 6 * 3141592653L);
        });
    }

    // ---- radii

    private static void radii() {
        part("Returns the radius of a circle.", () -> {
            CirclePacker packer = net("circle a radius 1;circle b;circle c radius 100000;");
            int[] due = {1, 1000, 100000};
            for (int c = 0; c < 3; c++) {
                is("radius(" + c + ")", packer.radius(c), due[c]);
            }
        });
        part("Sets the radius of a circle, also of a fixed one. Returns the previous one.", () -> {
            CirclePacker packer = net(WHEEL + "circle v;");
            is("a free one", packer.setRadius(0, 5), 1000);
            is("a fixed one", packer.setRadius(1, 6), 1000);
            is("one without a face", packer.setRadius(7, 7), 1000);
            is("the same radius", packer.setRadius(7, 7), 7);
            is("radius(0)", packer.radius(0), 5);
            is("radius(1)", packer.radius(1), 6);
            is("radius(2)", packer.radius(2), 1000);
            is("a fixed one stays fixed", packer.degrees(1), 0);
        });
        part("radius: 1 to 1000000. Throws IllegalArgumentException if radius is out of range", () -> {
            CirclePacker packer = net(WHEEL);
            is("1", packer.setRadius(0, 1), 1000);
            is("1000000", packer.setRadius(0, MOST), 1);
            for (int radius : new int[] {0, -1, MOST + 1, Integer.MIN_VALUE, Integer.MAX_VALUE}) {
                argument("setRadius(0, " + radius + ")", () -> packer.setRadius(0, radius));
                is("it stays", packer.radius(0), MOST);
            }
        });
        part("A free circle that has a face can be solved", () -> {
            CirclePacker packer = net(WHEEL + "circle v;circle w radius 5;");
            is("solve(0)", packer.solve(0), 999);
            state("a fixed one", () -> packer.solve(1));
            state("one without a face", () -> packer.solve(7));
            state("a fixed one without a face", () -> packer.solve(8));
            is("solved(1)", packer.solved(1), -1);
            is("solved(7)", packer.solved(7), -1);
            is("solved(8)", packer.solved(8), -1);
            is("what is left", packer.radius(7), 1000);
        });
        part("Throws IllegalStateException if it is fixed or has no face", () -> {
            CirclePacker packer = net(WHEEL + "circle v;circle w radius 5;");
            state("fixed", () -> packer.solve(6));
            state("no face", () -> packer.solve(7));
            state("both", () -> packer.solve(8));
            packer.setRadius(6, 5);
            state("fixed still", () -> packer.solve(6));
            is("the others can be solved", packer.solve(0) > 0, true);
        });
        part("its radius becomes the greatest one from 1 to 1000000 with which its sum is at least its target (the radii"
                + " of the others being as they are)", RadiiEdgesTest::greatest);
        part("or 1 if there is none.", () -> {
            CirclePacker packer = asking(180, 1000, 1000);
            is("solve(0)", packer.solve(0), 1);
            is("the sum is not enough", packer.defect(0) > 0, true);
            is("1800 degrees", asking(1800, MOST, MOST).solve(0), 1);
            is("small others", asking(90, 1, 1).solved(0), 1);
        });
        part("A sweep solves all these circles in ascending order.", () -> {
            CirclePacker swept = net(TWO_FREE);
            CirclePacker single = net(TWO_FREE);
            CirclePacker other = net(TWO_FREE);
            swept.sweep();
            single.solve(0);
            single.solve(1);
            other.solve(1);
            other.solve(0);
            same("radii", report(swept), report(single));
            is("the order tells", report(swept).equals(report(other)), false);
            CirclePacker mixed = net(WHEEL + "circle v;");
            mixed.sweep();
            is("a circle without a face stays", mixed.radius(7), 1000);
            is("a fixed circle stays", mixed.radius(1), 1000);
        });
        part("Makes a sweep. @return the number of circles whose radius was changed", () -> {
            is("a new object", new CirclePacker().sweep(), 0);
            is("fixed ones", net(TRIANGLE).sweep(), 0);
            is("two", net(TWO_FREE).sweep(), 2);
            CirclePacker packer = net(PAIR);
            packer.solve(0);
            is("one of two", packer.sweep(), 1);
            is("none", packer.sweep(), 0);
            is("12 of them", net(ICOSAHEDRON).sweep() <= 12, true);
        });
    }

    // The greatest radius is enough and the next one is not, for targets and neighbors of all sizes.
    private static void greatest() {
        int[] sizes = {1, 2, 1000, 999999, MOST};
        for (int degrees : new int[] {1, 2, 59, 60, 90, 120, 179}) {
            for (int b : sizes) {
                for (int c : sizes) {
                    CirclePacker packer = asking(degrees, b, c);
                    String what = degrees + " degrees with " + b + " and " + c;
                    int radius = packer.solve(0);
                    is(what + ": radius", packer.radius(0), radius);
                    is(what + ": at least 1", radius >= 1, true);
                    is(what + ": at most 1000000", radius <= MOST, true);
                    is(what + ": enough, or 1", packer.defect(0) <= 0 || radius == 1, true);
                    if (radius < MOST) {
                        packer.setRadius(0, radius + 1);
                        is(what + ": the next one is not", packer.defect(0) > 0, true);
                    }
                    packer.setRadius(0, 1);
                    is(what + ": from below", packer.solved(0), radius);
                    packer.setRadius(0, MOST);
                    is(what + ": from above", packer.solved(0), radius);
                }
            }
        }
        is("a sum that is the target", net(EXACT).solve(0), 100);
        is("1000000 is enough", asking(1, MOST, MOST).solve(0), MOST);
        is("1000000 is enough just so", asking(59, MOST, MOST).solve(0), MOST);
        // Among equal circles the angle is a bit less than 60 degrees.
        is("1000000 is just too great", asking(60, MOST, MOST).solve(0) < MOST, true);
        is("the one before it", asking(60, MOST, MOST).solve(0) > 999900, true);
        CirclePacker one = asking(90, 3, 3);
        is("1 is just enough", one.solve(0), 1);
        is("it is enough", one.defect(0) <= 0, true);
    }

    private static void settling() {
        part("To settle means to make sweeps until one changes no radius (it is counted, too)", () -> {
            is("a new object", new CirclePacker().settle(20), 1);
            is("fixed ones", net(TRIANGLE).settle(20), 1);
            is("one that changes and one that does not", net(PAIR).settle(20), 2);
            CirclePacker packer = net(TWO_FREE);
            CirclePacker other = net(TWO_FREE);
            int more = 1;
            while (other.sweep() > 0) {
                more++;
            }
            is("all of them", packer.settle(20), more);
            is("more than 2", more > 2, true);
            is("fewer than 20", more < 20, true);
            same("radii", report(packer), report(other));
            is("settled already", packer.settle(20), 1);
        });
        part("or a told number of them was made.", () -> {
            for (int most = 1; most <= 3; most++) {
                CirclePacker packer = net(TWO_FREE);
                CirclePacker other = net(TWO_FREE);
                is("settle(" + most + ")", packer.settle(most), most);
                for (int i = 0; i < most; i++) {
                    other.sweep();
                }
                same("radii", report(packer), report(other));
            }
            is("the last one allowed changes nothing", net(PAIR).settle(2), 2);
        });
        part("most: the greatest number of sweeps, 1 to 20. Throws IllegalArgumentException if most is out of range",
                () -> {
            CirclePacker packer = net(PAIR);
            for (int most : new int[] {0, -1, 21, Integer.MIN_VALUE, Integer.MAX_VALUE}) {
                argument("settle(" + most + ")", () -> packer.settle(most));
                is("nothing changes", packer.radius(0), 1000);
            }
            is("settle(1)", packer.settle(1), 1);
            is("settle(20)", packer.settle(20), 1);
        });
        part("Settles. Returns the number of sweeps that were made.", () -> {
            String text = "circle a angle 80;circle b angle 80;circle c radius 100000;face a b c;";
            CirclePacker packer = net(text);
            CirclePacker other = net(text);
            is("settle(20)", packer.settle(20), 20);
            for (int i = 0; i < 20; i++) {
                is("sweep()", other.sweep() > 0, true);
            }
            same("radii", report(packer), report(other));
            is("it is not settled", packer.isSettled(), false);
            is("settle(20) again", packer.settle(20), 2);
            is("it is settled", packer.isSettled(), true);
        });
        part("Returns whether a sweep would change nothing.", () -> {
            is("a new object", new CirclePacker().isSettled(), true);
            is("fixed ones", net(TRIANGLE).isSettled(), true);
            is("one without a face", net("circle a;").isSettled(), true);
            CirclePacker packer = net(PAIR);
            is("before a sweep", packer.isSettled(), false);
            is("it changes nothing", packer.radius(0), 1000);
            packer.solve(3);
            is("the first one is not solved", packer.isSettled(), false);
            packer.solve(0);
            is("both are solved", packer.isSettled(), true);
            packer.setRadius(3, packer.radius(3) + 1);
            is("the last one is 1 too great", packer.isSettled(), false);
            packer.setRadius(3, packer.radius(3) - 2);
            is("the last one is 1 too small", packer.isSettled(), false);
        });
        part("Returns the radius that solve() would give to a circle; NONE if it is fixed or has no face.", () -> {
            CirclePacker packer = net(WHEEL + "circle v;");
            is("solved(0)", packer.solved(0), 999);
            is("it changes nothing", packer.radius(0), 1000);
            is("and is no call to undo", packer.undo(), -1);
            is("a fixed one", packer.solved(1), -1);
            is("one without a face", packer.solved(7), -1);
        });
    }

    // ---- bounds

    private static void bounds() {
        part("if each radius r may lie between the greater one of 1 and r - slack, and r + slack, the low sum of a circle"
                + " is its sum with its own radius as great and all others as small as possible", () -> {
            CirclePacker packer = net(RIGHT + "circle d;");
            is("slack 0", packer.lowSum(0, 0), packer.sum(0));
            is("slack 1", packer.lowSum(0, 1), angle(101, 199, 299));
            is("slack 99", packer.lowSum(1, 99), angle(299, 201, 1));
            is("slack 100", packer.lowSum(1, 100), angle(300, 200, 1));
            is("slack 101", packer.lowSum(1, 101), angle(301, 199, 1));
            is("slack 200", packer.lowSum(0, 200), angle(300, 1, 100));
            is("slack 1000", packer.lowSum(2, 1000), angle(1300, 1, 1));
            is("no face", packer.lowSum(3, 1000), 0);
            is("beyond 1000000", triangle(MOST, MOST, MOST).lowSum(0, 1000), angle(MOST + 1000, MOST - 1000, MOST - 1000));
            is("a ring", around(true).lowSum(0, 7), 11 * angle(8, 993, 993));
        });
        part("the high sum that with its own radius as small and all others as great as possible.", () -> {
            CirclePacker packer = net(RIGHT + "circle d;");
            is("slack 0", packer.highSum(0, 0), packer.sum(0));
            is("slack 1", packer.highSum(0, 1), angle(99, 201, 301));
            is("slack 99", packer.highSum(0, 99), angle(1, 299, 399));
            is("slack 100", packer.highSum(0, 100), angle(1, 300, 400));
            is("slack 101", packer.highSum(0, 101), angle(1, 301, 401));
            is("slack 1000", packer.highSum(2, 1000), angle(1, 1100, 1200));
            is("no face", packer.highSum(3, 1000), 0);
            is("beyond 1000000", triangle(2000, MOST, MOST).highSum(0, 1000), angle(1000, MOST + 1000, MOST + 1000));
            is("a ring", around(true).highSum(0, 7), 11 * angle(1, 1007, 1007));
        });
        part("slack is 0 to 1000, otherwise IllegalArgumentException is thrown (behind IndexOutOfBoundsException).", () -> {
            CirclePacker packer = net(WHEEL);
            for (int slack : new int[] {-1, 1001, Integer.MIN_VALUE, Integer.MAX_VALUE}) {
                for (int c : new int[] {0, 1}) {
                    argument("lowSum()", () -> packer.lowSum(c, slack));
                    argument("highSum()", () -> packer.highSum(c, slack));
                    argument("isCertain()", () -> packer.isCertain(c, slack, 5));
                }
                index("lowSum()", () -> packer.lowSum(7, slack));
                index("highSum()", () -> packer.highSum(7, slack));
                index("isCertain()", () -> packer.isCertain(7, slack, 5));
                index("lowSum()", () -> packer.lowSum(-1, slack));
                index("highSum()", () -> packer.highSum(-1, slack));
                index("isCertain()", () -> packer.isCertain(-1, slack, 5));
            }
            is("lowSum(0, 1000)", packer.lowSum(0, 1000), 6 * angle(2000, 1, 1));
            is("highSum(0, 1000)", packer.highSum(0, 1000), 6 * angle(1, 2000, 2000));
            is("isCertain(0, 1000, 2000000000)", packer.isCertain(0, 1000, 2000000000), false);
        });
        part("A free circle is certain within a bound by a slack if its low sum is at least target - bound", () -> {
            CirclePacker packer = net(WHEEL);
            is("49051 off", packer.isCertain(0, 0, 49051), true);
            is("49051 off", packer.isCertain(0, 0, 49050), false);
            int low = (int) (TURN - packer.lowSum(0, 5));
            is("the low sum is farther off", low > packer.highSum(0, 5) - TURN, true);
            is("just within", packer.isCertain(0, 5, low), true);
            is("just beyond", packer.isCertain(0, 5, low - 1), false);
        });
        part("and its high sum at most target + bound.", () -> {
            CirclePacker packer = net(WHEEL);
            packer.setRadius(0, 990);
            int high = (int) (packer.highSum(0, 3) - TURN);
            is("the high sum is farther off", high > TURN - packer.lowSum(0, 3), true);
            is("just within", packer.isCertain(0, 3, high), true);
            is("just beyond", packer.isCertain(0, 3, high - 1), false);
            is("a sum that is the target", net(EXACT).isCertain(0, 0, 0), true);
        });
        part("Returns whether a circle is certain within a bound by a slack; false if it is fixed.", () -> {
            CirclePacker packer = net("circle a radius 1;" + WHEEL);
            is("a free one", packer.isCertain(1, 0, 49051), true);
            is("a fixed one without a face", packer.isCertain(0, 0, 2000000000), false);
            is("a fixed one with a sum", packer.isCertain(2, 0, 2000000000), false);
            is("a fixed one, the greatest slack", packer.isCertain(2, 1000, 0), false);
        });
        part("Throws IllegalArgumentException if bound is out of range, too", () -> {
            CirclePacker packer = net("circle a angle 114;circle b radius 1;circle c angle 115;");
            is("bound 2000000000", packer.isCertain(0, 1000, 2000000000), true);
            is("114 degrees are less", packer.isCertain(0, 1000, 1989675347), true);
            is("114 degrees are less", packer.isCertain(0, 1000, 1989675346), false);
            is("115 degrees are more", packer.isCertain(2, 0, 2000000000), false);
            is("a fixed one", packer.isCertain(1, 0, 2000000000), false);
            is("bound 0", net(EXACT).isCertain(0, 0, 0), true);
            for (int bound : new int[] {-1, 2000000001, Integer.MIN_VALUE, Integer.MAX_VALUE}) {
                argument("a free one", () -> packer.isCertain(0, 0, bound));
                argument("a fixed one", () -> packer.isCertain(1, 0, bound));
                argument("with a wrong slack", () -> packer.isCertain(0, -1, bound));
                index("with a wrong circle", () -> packer.isCertain(3, 0, bound));
            }
        });
        part("Returns the greatest slack by which all free circles are certain within a bound", () -> {
            CirclePacker packer = net(WHEEL);
            for (int bound : new int[] {1000000, 10000000, 100000000, 1000000000, 2000000000}) {
                int slack = packer.greatestSlack(bound);
                is("it is certain", packer.isCertain(0, slack, bound), true);
                is("the next one is not", packer.isCertain(0, slack + 1, bound), false);
            }
            is("slack 0 alone", packer.greatestSlack(49051), 0);
            CirclePacker grown = net("circle a angle 60;circle b radius 100000;circle c radius 100000;face a b c;");
            grown.solve(0);
            for (int slack : new int[] {0, 1, 2, 3, 249, 250, 499, 500, 501, 750, 998, 999, 1000}) {
                int off = (int) Math.max(1047197551L - grown.lowSum(0, slack), grown.highSum(0, slack) - 1047197551L);
                is("slack " + slack + " just met", grown.greatestSlack(off), slack);
                is("slack " + slack + " just not met", grown.greatestSlack(off - 1), slack - 1);
            }
            is("a circle without a face", net("circle a angle 90;").greatestSlack(1570796326), 1000);
            is("the circle that is certain least", net("circle a angle 57;" + WHEEL).greatestSlack(1000000000),
                    packer.greatestSlack(1000000000));
        });
        part("NONE if there is none, or no free circle.", () -> {
            CirclePacker packer = net(WHEEL);
            is("slack 0 is too much", packer.greatestSlack(49050), -1);
            is("bound 0", packer.greatestSlack(0), -1);
            is("fixed ones", net(TRIANGLE).greatestSlack(2000000000), -1);
            is("a new object", new CirclePacker().greatestSlack(2000000000), -1);
            is("the first one of two is not certain", net("circle v;" + WHEEL).greatestSlack(49051), -1);
            is("the last one of two is not certain", net(WHEEL + "circle v;").greatestSlack(49051), -1);
            is("a sum that is the target", net(EXACT).greatestSlack(0), 0);
        });
        part("bound: 0 to 2000000000. Throws IllegalArgumentException if bound is out of range, too (greatestSlack)",
                () -> {
            CirclePacker packer = net(WHEEL);
            for (int bound : new int[] {-1, 2000000001, Integer.MIN_VALUE, Integer.MAX_VALUE}) {
                argument("greatestSlack(" + bound + ")", () -> packer.greatestSlack(bound));
                argument("greatestSlack() of fixed ones", () -> net(TRIANGLE).greatestSlack(bound));
                argument("greatestSlack() of a new object", () -> new CirclePacker().greatestSlack(bound));
            }
            is("greatestSlack(2000000000)", packer.greatestSlack(2000000000) > 0, true);
            is("greatestSlack(0)", packer.greatestSlack(0), -1);
        });
    }

    public static void main(String[] args) {
        angles();
        sums();
        radii();
        settling();
        bounds();
        end();
    }
}
