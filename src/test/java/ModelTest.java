import java.util.Random;

/** Long runs of calls, by seeds that stay the same, on FrankPost and on the model at once. */
public final class ModelTest {
    private static final int RUNS = 6000;
    // What an object answers behind so many calls is free, so it is not held against the model.
    private static final int MOST_CALLS = 512;
    // As many calls as lookAtAll() makes.
    private static final int LOOK = 117;
    private static final int[] EDGES = {Integer.MIN_VALUE, -10, -4, -3, -2, -1, 0, 1, 2, 3, 4, 5, 6, 7, 8, 9, 10, 11,
        18, 19, 20, 21, 30, 31, 40, 41, 59, 60, 61, 127, 128, 160, 161, 255, 256, 65536, Integer.MAX_VALUE - 3, Integer.MAX_VALUE};
    private static int wrong = 0;

    private final Random random;
    private final FrankPost post = new FrankPost();
    private final PostModel model = new PostModel();
    private final StringBuilder log = new StringBuilder();
    private boolean failed = false;
    private int calls = 0;

    private ModelTest(long seed) { random = new Random(seed); }

    /** Mostly a number from least to most, else one of the edges. */
    private int pick(int least, int most) {
        if (random.nextInt(25) == 0) return EDGES[random.nextInt(EDGES.length)];
        return least + random.nextInt(most - least + 1);
    }

    private int who() { return pick(0, 4); }
    private int which() { return pick(0, 5); }
    private int bool() { return pick(0, 1); }

    private void due(String call, long got, long want) {
        calls++;
        if (calls > MOST_CALLS) return;
        log.append("  ").append(call).append(" = ").append(want).append('\n');
        if (got != want && !failed) {
            failed = true;
            wrong++;
            if (wrong <= 5) System.out.println(log + "  -> answered " + got);
        }
    }

    private static String name(String call, int... args) {
        StringBuilder b = new StringBuilder(call).append('(');
        for (int j = 0; j < args.length; j++) b.append(j == 0 ? "" : ", ").append(args[j]);
        return b.append(')').toString();
    }

    private String someText() {
        StringBuilder b = new StringBuilder();
        int people = random.nextInt(8) == 0 ? 6 : random.nextInt(6);
        String[] kinds = {"plain", "proud", "kind", "sly"};
        for (int p = 0; p < people; p++) {
            b.append(kinds[random.nextInt(4)]).append(' ').append(random.nextInt(10)).append(' ').append(random.nextInt(21)).append(';');
        }
        int letters = people == 0 ? 0 : random.nextInt(12) == 0 ? 7 : random.nextInt(7);
        for (int i = 0; i < letters; i++) {
            b.append("letter");
            for (int j = 0; j < 3; j++) b.append(' ').append(random.nextInt(Math.min(5, people)));
            b.append(' ').append(random.nextInt(19)).append(';');
        }
        if (random.nextBoolean()) b.insert(random.nextInt(3) == 0 ? 0 : b.length(), "pace " + (1 + random.nextInt(4)) + ";");
        if (random.nextInt(3) == 0) spoil(b);
        return b.toString();
    }

    private void spoil(StringBuilder b) {
        String[] bits = {" ", "  ", ";", "0", "7", "25", "99", "100", "a", "z", "A", "{", "`", "/", ":", "\t", "pace 3;",
            "plain", "letter ", "kind 1 2;", "letter 4 4 4 4;", "\0", "\177", "pace"};
        for (int n = 1 + random.nextInt(2); n > 0; n--) {
            int at = random.nextInt(b.length() + 1);
            if (random.nextInt(3) == 0 && at < b.length()) b.deleteCharAt(at);
            else b.insert(at, bits[random.nextInt(bits.length)]);
        }
    }

    private void tellText() {
        if (random.nextInt(10) != 0) due("end(0)", post.end(0), model.end(0));
        String s = someText();
        for (int j = 0; j < s.length(); j++) {
            int c = s.charAt(j);
            due(name("feed", c), post.feed(c), model.feed(c));
        }
        if (random.nextInt(8) == 0) {
            int n = random.nextInt(s.length() + 1);
            due(name("end", n), post.end(n), model.end(n));
        }
        due("text()", post.text(), model.text());
        due("fault()", post.fault(), model.fault());
    }

    private void lookAtAll() {
        for (int j = -1; j <= 7; j++) due(name("rule", j), post.rule(j), model.rule(j));
        for (int j = -1; j <= 6; j++) due(name("count", j), post.count(j), model.count(j));
        for (int p = -1; p <= 5; p++) for (int j = -1; j <= 4; j++) due(name("one", p, j), post.one(p, j), model.one(p, j));
        for (int i = -1; i <= 6; i++) for (int j = -1; j <= 6; j++) due(name("letter", i, j), post.letter(i, j), model.letter(i, j));
        due("torn()", post.torn(), model.torn());
        due("fault()", post.fault(), model.fault());
    }

    private void change() {
        int a = who(), b = who(), c = who(), i = which(), w = pick(0, 2);
        int tone = pick(0, 18), v = pick(0, new int[] {3, 9, 20}[Math.floorMod(w, 3)]);
        switch (random.nextInt(12)) {
            case 0, 1: due(name("alter", a, w, v), post.alter(a, w, v), model.alter(a, w, v)); break;
            case 2: due(name("tone", i, tone), post.tone(i, tone), model.tone(i, tone)); break;
            case 3: v = pick(1, 4); due(name("pace", v), post.pace(v), model.pace(v)); break;
            case 4, 5, 6: due(name("write", a, b, c, tone), post.write(a, b, c, tone), model.write(a, b, c, tone)); break;
            case 7: if (random.nextInt(3) == 0) { due(name("burn", i), post.burn(i), model.burn(i)); } break;
            case 8, 9, 10:
                v = random.nextInt(8) == 0 ? pick(0, 30) : pick(0, 3);
                due(name("days", v), post.days(v), model.days(v));
                break;
            default: if (random.nextBoolean()) due(name("back", w), post.back(w), model.back(w));
                else due(name("keep", w), post.keep(w), model.keep(w));
        }
    }

    private void ask() {
        int p = who(), i = which(), what = bool(), n = random.nextInt(3) == 0 ? pick(0, 60) : pick(0, 12), v;
        switch (random.nextInt(13)) {
            case 0: v = pick(0, 3); due(name("runs", n, v), post.runs(n, v), model.runs(n, v)); break;
            case 1: due(name("ahead", p, n), post.ahead(p, n), model.ahead(p, n)); break;
            case 2: due(name("comes", i), post.comes(i), model.comes(i)); break;
            case 3: due(name("say", i, n, what), post.say(i, n, what), model.say(i, n, what)); break;
            case 4: due(name("need", i, n), post.need(i, n), model.need(i, n)); break;
            case 5: due(name("about", i, n, what), post.about(i, n, what), model.about(i, n, what)); break;
            case 6: due(name("swap", n, what), post.swap(n, what), model.swap(n, what)); break;
            case 7: due(name("stop", n, what), post.stop(n, what), model.stop(n, what)); break;
            case 8: due(name("kind", p, n, what), post.kind(p, n, what), model.kind(p, n, what)); break;
            case 9: v = pick(0, 10); n = pick(0, 8); due(name("luck", v, i, n, what), post.luck(v, i, n, what), model.luck(v, i, n, what)); break;
            case 10: v = pick(0, 10); n = pick(0, 8); due(name("mean", v, n, what), post.mean(v, n, what), model.mean(v, n, what)); break;
            case 11: v = random.nextInt(); due(name("drift", v, n, what), post.drift(v, n, what), model.drift(v, n, what)); break;
            default: v = pick(0, 18); due(name("feels", p, v), post.feels(p, v), model.feels(p, v));
        }
    }

    private void moods() {
        int p = who(), i = which(), n = pick(0, 20), what = bool();
        switch (random.nextInt(6)) {
            case 0, 1:
                // A mood that will be so, or no sight ever leaves anything over.
                int v = random.nextInt(4) == 0 ? pick(0, 20) : Math.max(0, model.ahead(p, n));
                due(name("see", n, p, v), post.see(n, p, v), model.see(n, p, v));
                break;
            case 2: if (random.nextBoolean()) due(name("forget", i), post.forget(i), model.forget(i)); break;
            case 3: due(name("kinds", p), post.kinds(p), model.kinds(p)); break;
            case 4: due(name("tones", i), post.tones(i), model.tones(i)); break;
            default: due(name("ask", i, what), post.ask(i, what), model.ask(i, what));
        }
    }

    private void sheets() {
        int k = pick(0, 3), lane = pick(0, 2), i = pick(0, 12), n;
        switch (random.nextInt(4)) {
            case 0: n = pick(-1, 41); due(name("sheet", k, lane, n), post.sheet(k, lane, n), model.sheet(k, lane, n)); break;
            case 1, 2:
                n = random.nextInt(4) == 0 ? pick(0, 18) + 256 : pick(0, 2);
                due(name("lay", k, i, n), post.lay(k, i, n), model.lay(k, i, n));
                break;
            default:
                n = random.nextInt(4) == 0 ? pick(0, 10) : pick(0, 3);
                i = random.nextInt(3) == 0 ? pick(0, 40) : 0;
                for (int l = 0; l <= 2; l++) {
                    due(name("read", k, l, i, n), post.read(k, l, i, n), model.read(k, l, i, n));
                    due("torn()", post.torn(), model.torn());
                }
        }
    }

    private void go() {
        if (random.nextInt(20) != 0) tellText();
        for (int n = 0; n < 120 && !failed && calls <= MOST_CALLS - LOOK; n++) {
            switch (random.nextInt(20)) {
                case 0: if (random.nextInt(4) == 0) tellText(); break;
                case 1, 2, 3, 4, 5: change(); break;
                case 6, 7, 8: sheets(); break;
                case 9, 10, 11, 12: moods(); break;
                case 13: if (random.nextInt(3) == 0) lookAtAll(); break;
                default: ask();
            }
        }
        lookAtAll();
    }

    public static void main(String[] args) {
        for (int run = 0; run < RUNS; run++) new ModelTest(run).go();
        System.out.println(wrong == 0 ? RUNS + " runs are as the model has them" : wrong + " runs are not as the model has them");
        if (wrong != 0) System.exit(1);
    }
}
