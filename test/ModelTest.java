import java.util.ArrayList;
import java.util.List;
import java.util.Random;

/** Random flights, good and faulty, and random calls: all answers as the model's. The draws have fixed seeds. */
public final class ModelTest {
    private static final String[] WORDS = {"flight", "days", "grows", "room", "stop", "hall", "strait", "south", "way",
        "wind", "loss", "umbrella", "black", "golf", "lady", "folding", "miser", "strong", "home", "flies", "ring",
        "back", "owner", "out", "to", "rain", "good", "bad", "a", "b", "zz", "tooolong", "waytoolong", "0", "5", "17",
        "999", "1000", "007", ";", ",", ";;", "$", "A", "\n", "\u00e9"};

    /** An object is used for at most so many calls. */
    private static final int MOST_CALLS = 512;

    /** A text may be fed in 55 calls, and seven more are made with it. */
    private static final int CALLS_OF_A_TEXT = 62;

    private static Random draw;
    private static int used;
    private static List<String> names;
    private static int days;

    private static int upTo(int most) {
        return draw.nextInt(most + 1);
    }

    private static String oneOf(String... these) {
        return these[draw.nextInt(these.length)];
    }

    private static String newName() {
        String name;
        do {
            name = draw.nextInt(12) == 0 ? oneOf("hall", "to", "days", "black", "good", "abcdefgh", "loss")
                : "" + (char) ('a' + draw.nextInt(26)) + (draw.nextBoolean() ? (char) ('a' + draw.nextInt(26)) : "");
        } while (names.contains(name));
        names.add(name);
        return name;
    }

    private static String some(List<String> these) {
        return these.isEmpty() ? "none" : these.get(draw.nextInt(these.size()));
    }

    /** Lines as a rule good; with wild, a few more of each than may be. */
    private static List<String> lines(boolean wild) {
        names = new ArrayList<>();
        List<String> lines = new ArrayList<>();
        days = 2 + upTo(draw.nextInt(4) == 0 ? 18 : 6);
        lines.add("flight days " + days + " grows " + upTo(99) + " room " + (1 + upTo(998)));
        List<String> halls = new ArrayList<>();
        List<String> stops = new ArrayList<>();
        int count = 2 + upTo(6) + (wild && draw.nextInt(4) == 0 ? 2 : 0);
        int aHall = draw.nextInt(count);
        int aSouth = draw.nextInt(count);
        for (int i = 0; i < count; i++) {
            String sort = i == aHall ? "hall" : i == aSouth ? "south" : oneOf("hall", "strait", "south");
            String name = newName();
            stops.add(name);
            if (sort.equals("hall")) {
                halls.add(name);
            }
            lines.add("stop " + name + " " + sort);
        }
        List<int[]> ways = new ArrayList<>();
        int wanted = upTo(14) + (draw.nextBoolean() ? 4 : 0);
        for (int i = 0; i < wanted && (wild || ways.size() < 14); i++) {
            int from = draw.nextInt(stops.size());
            int to = draw.nextInt(stops.size());
            boolean there = from == to;
            for (int[] way : ways) {
                there |= way[0] == from && way[1] == to;
            }
            if (!there) {
                ways.add(new int[] {from, to});
                lines.add("way " + stops.get(from) + " " + stops.get(to) + " wind " + upTo(draw.nextBoolean() ? 3 : 9)
                    + " loss " + upTo(50));
            }
        }
        addUmbrellas(lines, stops, halls, ways, wild);
        addOwners(lines, halls, wild);
        return lines;
    }

    private static void addUmbrellas(List<String> lines, List<String> stops, List<String> halls, List<int[]> ways,
        boolean wild) {
        List<String> umbrellas = new ArrayList<>();
        int count = 1 + upTo(5) + (wild && draw.nextInt(4) == 0 ? 1 : 0);
        boolean together = draw.nextBoolean();
        for (int i = 0; i < count; i++) {
            String name = newName();
            String home = together ? halls.get(0) : some(halls);
            umbrellas.add(name);
            lines.add("umbrella " + name + " " + oneOf("black", "golf", "lady", "folding", "black", "golf", "miser")
                + " strong " + upTo(draw.nextBoolean() ? 30 : 12) + " home " + home);
            int at = stops.indexOf(home);
            StringBuilder route = new StringBuilder();
            for (int k = 0; k < 1 + upTo(4); k++) {
                List<Integer> next = new ArrayList<>();
                for (int[] way : ways) {
                    if (way[0] == at) {
                        next.add(way[1]);
                    }
                }
                if (next.isEmpty()) {
                    break;
                }
                at = next.get(together ? 0 : draw.nextInt(next.size()));
                route.append(k == 0 ? "" : draw.nextBoolean() ? " , " : ",").append(stops.get(at));
            }
            if (route.length() > 0 && draw.nextInt(5) > 0) {
                lines.add("flies " + name + " " + upTo(together ? 1 : days - 1) + " " + route);
            }
            for (int k = upTo(2); k > 1; k--) {
                lines.add("ring " + name + " " + some(stops) + " " + upTo(days - 1));
            }
            if (draw.nextInt(3) > 0) {
                lines.add("back " + name + " " + some(halls));
            }
        }
    }

    private static void addOwners(List<String> lines, List<String> halls, boolean wild) {
        List<String> owners = new ArrayList<>();
        for (int i = upTo(6) + (wild && draw.nextInt(4) == 0 ? 1 : 0); i > 0; i--) {
            owners.add(newName());
            lines.add("owner " + owners.get(owners.size() - 1) + " " + some(halls));
        }
        for (int i = upTo(8) + (wild && draw.nextInt(4) == 0 ? 3 : 0); i > 0 && !owners.isEmpty(); i--) {
            int first = upTo(days - 1);
            lines.add("out " + some(owners) + " " + first + " to " + (first + upTo(days - 1 - first)));
        }
        for (int day = 0, n = 0; day < days && (wild || n < 10); day++) {
            if (draw.nextInt(3) == 0) {
                lines.add("rain " + day);
                n++;
            }
        }
        for (int i = upTo(6) + (wild && draw.nextInt(4) == 0 ? 1 : 0); i > 0; i--) {
            lines.add("wind " + upTo(100) + " good " + upTo(99) + " bad " + upTo(99));
        }
    }

    private static String text() {
        int how = draw.nextInt(10);
        List<String> lines = lines(how == 0);
        for (int i = how == 1 ? upTo(3) : 0; i > 0 && lines.size() > 1; i--) {
            lines.add(draw.nextInt(lines.size()), lines.get(draw.nextInt(lines.size())));
        }
        if (how == 2) {
            lines.remove(draw.nextInt(lines.size()));
        }
        String text = String.join(draw.nextBoolean() ? ";" : " ; ", lines);
        if (how == 3 || how == 4) {
            for (int i = upTo(2); i >= 0; i--) {
                String[] tokens = text.split("(?<=[ ;,])|(?=[ ;,])");
                int at = draw.nextInt(tokens.length);
                tokens[at] = draw.nextInt(3) == 0 ? tokens[draw.nextInt(tokens.length)] : oneOf(WORDS);
                text = String.join("", tokens);
            }
        }
        if (how == 5) {
            text = text.substring(0, draw.nextInt(text.length() + 1));
        }
        return text.length() > 1080 ? text.substring(0, 1080) : text;
    }

    private static void tellBoth(UmbrellaFlight x, Model m, String text) {
        used += CALLS_OF_A_TEXT;
        Check.feed(x, text);
        String blocks = text + " ".repeat((20 - text.length() % 20) % 20);
        m.tape += blocks.substring(0, Math.min(blocks.length(), 1100 - m.tape.length()));
        Check.due("bytes of the tape", x.size(14), m.tape.length());
        int n = draw.nextInt(20) == 0 ? draw.nextInt(m.tape.length() + 40) - 20 : text.length();
        long want = m.flight(n);
        Check.due("flight(" + n + ") of " + text, x.flight(n), want);
        Check.due("trouble of " + text, x.trouble(), m.trouble);
        Check.due("fault of " + text, x.fault(), m.fault);
        Check.due("where of " + text, x.where(), m.call(5, 0, 0, 0));
        if (draw.nextInt(8) == 0 && m.tape.isEmpty()) {
            Check.due("feed", x.feed(0x20202020, 0, -1, 0x61626364, 1), 20);
            m.tape = "    \0\0\0\0\u00ff\u00ff\u00ff\u00ffabcd\0\0\0\1";
        }
    }

    private static int one(int often, int most) {
        if (draw.nextInt(60) == 0) {
            int[] far = {Integer.MIN_VALUE, Integer.MAX_VALUE, -1000000, 1 << 30, 32, 64, 100};
            return far[draw.nextInt(far.length)];
        }
        return draw.nextInt(12) == 0 ? draw.nextInt(often + 8) - 4 : draw.nextInt(most + 1);
    }

    private static int[] numbers(int which, Model m) {
        int u = one(6, m.umbrellas());
        int d = one(20, days);
        switch (which) {
            case 6:
            case 33:
            case 34:
                return new int[] {one(8, 8), 0, 0};
            case 7:
                return new int[] {one(8, 7), one(8, 7), one(2, 1)};
            case 8:
            case 9:
                return new int[] {u, one(6, 5), 0};
            case 15:
                return new int[] {one(8, 8), d, 0};
            case 20:
                return new int[] {u, one(30, 5), one(5, 4)};
            case 21:
                return new int[] {u, one(30, 5), upTo(1)};
            case 31:
                return new int[] {d, 0, 0};
            case 37:
                return new int[] {one(6, 5), upTo(1), 0};
            case 38:
                return new int[] {one(1010, 999), one(1010, draw.nextBoolean() ? 99 : 999), one(210, 20)};
            case 39:
                return new int[] {one(1010, draw.nextBoolean() ? 99 : 999), one(210, 20), 0};
            case 40:
                return new int[] {one(65550, 65536), 0, 0};
            case 41:
                return new int[] {one(65550, 65536), one(60, 12), 0};
            case 42:
                return new int[] {u, upTo(1), 0};
            case 43:
                return new int[] {u, one(12, 3), d};
            case 47:
                return new int[] {one(3, 2), 0, 0};
            case 49:
                return new int[] {one(20, 14), 0, 0};
            default:
                return new int[] {u, d, upTo(1)};
        }
    }

    private static void run(int seed) {
        draw = new Random(seed);
        days = 5;
        used = 0;
        UmbrellaFlight x = new UmbrellaFlight();
        Model m = new Model();
        String text = "";
        if (seed % 20 > 0) {
            text = text();
            tellBoth(x, m, text);
        }
        for (int i = 0; i < 200 && used + 2 <= MOST_CALLS; i++) {
            if (draw.nextInt(150) == 0 && used + CALLS_OF_A_TEXT + 2 <= MOST_CALLS) {
                text = text();
                tellBoth(x, m, text);
            }
            used += 2;
            int which = draw.nextInt(4) == 0 ? 42 + draw.nextInt(4) : 4 + draw.nextInt(47);
            int[] n = numbers(which, m);
            long want = m.call(which, n[0], n[1], n[2]);
            String call = "seed " + seed + ", call of promise " + which + " with " + n[0] + " " + n[1] + " " + n[2];
            Check.due(call, Calls.ask(x, which, n[0], n[1], n[2]), want);
            Check.due("trouble of " + call, x.trouble(), m.trouble);
        }
    }

    public static void main(String[] args) {
        int runs = args.length > 0 ? Integer.parseInt(args[0]) : 2000;
        for (int seed = 0; seed < runs; seed++) {
            run(seed);
        }
        Check.end();
    }
}
