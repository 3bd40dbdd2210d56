import java.util.ArrayList;
import java.util.Collections;
import java.util.List;
import java.util.Random;

/** Makes texts of nets and scripts, right ones and spoilt ones, from a told seed. */
final class Texts {
    private static final String[] TOKENS = {"circle", "face", "scale", "radius", "angle", "solve", "sweep", "set",
        "lay", "turn", "calm", "repeat", ";", "(", ")", "0", "1", "6", "7", "10", "11", "360", "1800", "1801",
        "100000", "100001", "999999", "1000000", "000001", "0000001", "a", "b", "zz", "abcdefgh", "abcdefghi", "A",
        ",", "\t", "é", "-1", "circles"};

    final Random random;
    List<String> names = new ArrayList<>();

    Texts(Random random) {
        this.random = random;
    }

    // ---- nets

    static List<int[]> wheel(int k, boolean closed) {
        List<int[]> faces = new ArrayList<>();
        for (int i = 0; i < (closed ? k : k - 1); i++) {
            faces.add(new int[] {0, 1 + i, 1 + (i + 1) % k});
        }
        return faces;
    }

    static List<int[]> band(int k) {
        List<int[]> faces = new ArrayList<>();
        for (int i = 0; i < k; i++) {
            int next = (i + 1) % k;
            faces.add(new int[] {i, k + i, k + next});
            faces.add(new int[] {i, k + next, next});
        }
        return faces;
    }

    static List<int[]> torus() {
        List<int[]> faces = new ArrayList<>();
        for (int i = 0; i < 7; i++) {
            faces.add(new int[] {i, (i + 1) % 7, (i + 3) % 7});
            faces.add(new int[] {i, (i + 3) % 7, (i + 2) % 7});
        }
        return faces;
    }

    static List<int[]> icosahedron() {
        List<int[]> faces = new ArrayList<>();
        for (int i = 0; i < 5; i++) {
            int next = (i + 1) % 5;
            faces.add(new int[] {0, 1 + i, 1 + next});
            faces.add(new int[] {1 + next, 1 + i, 6 + i});
            faces.add(new int[] {6 + i, 6 + next, 1 + next});
            faces.add(new int[] {11, 6 + next, 6 + i});
        }
        return faces;
    }

    static List<int[]> octahedron() {
        List<int[]> faces = wheel(4, true);
        for (int i = 0; i < 4; i++) {
            faces.add(new int[] {5, 1 + (i + 1) % 4, 1 + i});
        }
        return faces;
    }

    static List<int[]> doubled() {
        List<int[]> faces = new ArrayList<>();
        faces.add(new int[] {0, 1, 2});
        faces.add(new int[] {0, 2, 1});
        return faces;
    }

    static List<int[]> grid() {
        List<int[]> faces = new ArrayList<>();
        for (int y = 0; y < 2; y++) {
            for (int x = 0; x < 3; x++) {
                int a = 4 * y + x;
                faces.add(new int[] {a, a + 1, a + 5});
                faces.add(new int[] {a, a + 5, a + 4});
            }
        }
        return faces;
    }

    private List<int[]> somePiece() {
        switch (random.nextInt(10)) {
            case 0:
                return wheel(2 + random.nextInt(7), false);
            case 1:
            case 2:
                return wheel(3 + random.nextInt(6), true);
            case 3:
                return band(3 + random.nextInt(4));
            case 4:
                return torus();
            case 5:
                return icosahedron();
            case 6:
                return octahedron();
            case 7:
                return doubled();
            case 8:
                return grid();
            default:
                return wheel(2, false);
        }
    }

    private static int highest(List<int[]> faces) {
        int highest = -1;
        for (int[] f : faces) {
            for (int c : f) {
                highest = Math.max(highest, c);
            }
        }
        return highest;
    }

    private List<int[]> someFaces() {
        List<int[]> all = new ArrayList<>();
        for (int tries = 1 + random.nextInt(3); tries > 0; tries--) {
            List<int[]> piece = somePiece();
            int base = highest(all) + 1;
            if (base + highest(piece) < 12 && all.size() + piece.size() <= 20) {
                boolean flip = random.nextInt(6) == 0;
                for (int[] f : piece) {
                    all.add(flip ? new int[] {base + f[0], base + f[2], base + f[1]}
                            : new int[] {base + f[0], base + f[1], base + f[2]});
                }
            }
        }
        if (random.nextInt(4) == 0) {
            for (int drops = random.nextInt(4); drops > 0 && !all.isEmpty(); drops--) {
                all.remove(random.nextInt(all.size()));
            }
        }
        return all;
    }

    int someRadius(int most) {
        switch (random.nextInt(6)) {
            case 0:
                return 1 + random.nextInt(10);
            case 1:
                return most - random.nextInt(10);
            case 2:
                return 1 + random.nextInt(most);
            default:
                return Math.min(most, 300 + random.nextInt(2000));
        }
    }

    private String someKind() {
        switch (random.nextInt(5)) {
            case 0:
            case 1:
                return " radius " + someRadius(100000);
            case 2:
                return " angle " + (random.nextInt(3) == 0 ? 1 + random.nextInt(1800) : 60 * (1 + random.nextInt(7)));
            default:
                return "";
        }
    }

    private String someName() {
        StringBuilder name = new StringBuilder();
        int length = random.nextInt(8) == 0 ? 8 : 1 + random.nextInt(2);
        while (name.length() < length) {
            name.append((char) ('a' + random.nextInt(26)));
        }
        return name.toString();
    }

    String net() {
        List<int[]> faces = someFaces();
        int circles = Math.min(12, highest(faces) + 1 + random.nextInt(2));
        List<Integer> place = new ArrayList<>();
        names = new ArrayList<>();
        while (names.size() < circles) {
            place.add(names.size());
            String name = someName();
            if (!names.contains(name) && !Model.KEYWORDS.contains(name)) {
                names.add(name);
            }
        }
        Collections.shuffle(place, random);
        Collections.shuffle(faces, random);
        StringBuilder text = new StringBuilder();
        int scaleAt = random.nextInt(3) == 0 ? random.nextInt(circles + 1) : -1;
        for (int c = 0; c <= circles; c++) {
            if (c == scaleAt) {
                text.append("scale ").append(someRadius(100000)).append(";");
            }
            if (c < circles) {
                text.append("circle ").append(names.get(c)).append(someKind()).append(";");
            }
        }
        for (int[] f : faces) {
            int turn = random.nextInt(3);
            text.append("face");
            for (int k = 0; k < 3; k++) {
                text.append(" ").append(names.get(place.get(f[(k + turn) % 3])));
            }
            text.append(";");
        }
        return cut(text.toString());
    }

    // ---- scripts

    private String someCommand(int depth) {
        String name = names.isEmpty() || random.nextInt(30) == 0 ? "nobody" : names.get(random.nextInt(names.size()));
        switch (random.nextInt(depth < 2 ? 9 : 7)) {
            case 0:
                return "solve " + name + ";";
            case 1:
                return "sweep " + (1 + random.nextInt(6)) + ";";
            case 2:
                return "set " + name + " " + someRadius(999999) + ";";
            case 3:
                return "lay " + random.nextInt(8) + ";";
            case 4:
                return "turn;";
            case 5:
                return "calm " + random.nextInt(1000000) + ";";
            case 6:
                return "turn;";
            default:
                return "repeat " + (1 + random.nextInt(10)) + "(" + someCommands(depth + 1) + ");";
        }
    }

    private String someCommands(int depth) {
        StringBuilder text = new StringBuilder();
        for (int n = random.nextInt(depth == 0 ? 8 : 4); n > 0; n--) {
            text.append(someCommand(depth));
        }
        return text.toString();
    }

    String script() {
        return cut(someCommands(0));
    }

    // ---- spoilt texts

    private static String cut(String text) {
        return text.length() > 800 ? text.substring(0, 800) : text;
    }

    /** Blanks between tokens, where they change nothing. */
    String loosened(String text) {
        StringBuilder loose = new StringBuilder();
        for (char c : text.toCharArray()) {
            boolean isSign = c == ';' || c == '(' || c == ')' || c == ' ';
            if (isSign && random.nextInt(12) == 0) {
                loose.append(random.nextBoolean() ? ' ' : '\n');
            }
            loose.append(c);
            if (isSign && random.nextInt(12) == 0) {
                loose.append(random.nextBoolean() ? ' ' : '\n');
            }
        }
        return cut(loose.toString());
    }

    String spoilt(String text) {
        List<String> parts = new ArrayList<>(List.of(text.split("(?<=[;() ])|(?=[;() ])")));
        for (int n = 1 + random.nextInt(2); n > 0; n--) {
            int i = random.nextInt(parts.size());
            String other = random.nextBoolean() ? TOKENS[random.nextInt(TOKENS.length)]
                    : parts.get(random.nextInt(parts.size()));
            switch (random.nextInt(4)) {
                case 0:
                    parts.set(i, other);
                    break;
                case 1:
                    parts.add(i, other);
                    break;
                case 2:
                    parts.add(i, " " + other + " ");
                    break;
                default:
                    parts.set(i, "");
            }
        }
        String spoilt = String.join("", parts);
        return cut(random.nextInt(6) == 0 ? spoilt.substring(0, random.nextInt(spoilt.length() + 1)) : spoilt);
    }
}
