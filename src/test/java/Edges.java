import java.util.ArrayList;
import java.util.List;
import java.util.function.Supplier;

/** What the groups of EdgeTest have in common: which sentence is looked at, what is due of it, what was not as due. */
abstract class Edges {
    static final int BAD = FrankPost.BAD, STATE = FrankPost.STATE, FULL = FrankPost.FULL, NONE = FrankPost.NONE;
    static final int LEAST = Integer.MIN_VALUE, MOST = Integer.MAX_VALUE;
    static final String[] KIND_NAMES = {"plain", "proud", "kind", "sly"};
    static final int TERMS = 0;

    /** Three ones and two letters that are on their way. */
    static final String FEW = "plain 1 10;proud 4 6;sly 7 15;letter 0 1 2 6;letter 2 0 1 11;pace 3;";
    /** As many ones and letters as there may be. */
    static final String MANY = "plain 0 10;proud 2 10;kind 4 10;sly 6 10;plain 8 10;letter 0 1 2 9;letter 1 2 3 9;"
        + "letter 2 3 4 9;letter 3 4 0 9;letter 4 0 1 9;letter 0 0 0 9;";

    /** Behind two days, one letter that came, one that is kept. */
    static final String ENDED = "plain 0 10;letter 0 0 0 9;letter 0 0 0 0;";

    /** A sentence of the document, and the promise it stands in (0: none, it is among the terms). */
    record Quote(int promise, String words) { }

    interface Call {
        long on(FrankPost x, int... a);
    }

    private static final List<Quote> QUOTES = new ArrayList<>();
    private static int wrong = 0;
    private static int asked = 0;
    private int askedBefore = 0;
    private Quote quote = new Quote(TERMS, "");

    abstract void run();

    static List<Quote> quotes() { return QUOTES; }
    static int wrong() { return wrong; }

    /** Begins the test of a sentence, which is quoted as it stands in the document. */
    final void says(int promise, String words) {
        closeQuote();
        quote = new Quote(promise, words);
        QUOTES.add(quote);
        askedBefore = asked;
    }

    /** A sentence that was quoted but of which nothing was asked has no test. */
    final void closeQuote() {
        if (!quote.words().isEmpty() && asked == askedBefore) fail("nothing was asked");
    }

    private void fail(String what) {
        wrong++;
        System.out.println((quote.promise() == TERMS ? "terms" : "promise " + quote.promise()) + ", '" + quote.words() + "': " + what);
    }

    final void due(String call, long got, long want) {
        asked++;
        if (got != want) fail(call + " answered " + got + ", due is " + want);
    }

    final void holds(String what, boolean it) {
        asked++;
        if (!it) fail(what + " does not hold");
    }

    /** The answers of one call for what = 0, 1 .. */
    final void dueAll(String name, FrankPost x, Call call, int... want) {
        for (int what = 0; what < want.length; what++) due(name + ", what " + what, call.on(x, what), want[what]);
    }

    final void luckIs(FrankPost x, int v, int i, int n, long over, long under) {
        due("luck(" + v + ", " + i + ", " + n + ", 0)", x.luck(v, i, n, 0), over);
        due("luck(" + v + ", " + i + ", " + n + ", 1)", x.luck(v, i, n, 1), under);
    }

    static void feed(FrankPost x, String s) {
        for (int j = 0; j < s.length(); j++) x.feed(s.charAt(j));
    }

    final FrankPost told(String s) {
        FrankPost x = new FrankPost();
        feed(x, s);
        int lines = x.text();
        if (lines < 0) fail("the test's own text '" + s + "' answered " + lines);
        return x;
    }

    final FrankPost told(String s, int days) {
        FrankPost x = told(s);
        x.days(days);
        return x;
    }

    /** FEW with something in every corner: a day, a sight, two images, sheets, a torn read, bytes on the tape. */
    final FrankPost rich() {
        FrankPost x = told(FEW);
        x.keep(0);
        x.see(1, 1, 10);
        x.days(1);
        x.keep(1);
        x.sheet(0, 0, 9);
        x.lay(0, 7, 12);
        x.sheet(2, 2, 4);
        x.lay(2, 3, 5);
        x.read(1, 0, 0, 1);
        feed(x, "pace 4;");
        return x;
    }

    final FrankPost few() { return told(FEW); }
    final FrankPost many() { return told(MANY); }
    final FrankPost ended() { return told(ENDED, 2); }

    /** People, letters, pace, day, what was seen: all that an image holds, as far as it can be asked without a change. */
    static String state(FrankPost x) {
        StringBuilder b = new StringBuilder();
        for (int j = 0; j <= 6; j++) b.append(x.rule(j)).append(' ');
        for (int p = 0; p < x.rule(0); p++) {
            for (int j = 0; j <= 3; j++) b.append(x.one(p, j)).append(' ');
            b.append(x.kinds(p)).append(' ');
        }
        for (int i = 0; i < x.rule(1); i++) for (int j = 0; j <= 5; j++) b.append(x.letter(i, j)).append(' ');
        return b.append(x.count(0)).toString();
    }

    /** All that there is but the tape and its fault, told by calls that change it: of two objects alike, or at the end. */
    static String held(FrankPost x) {
        StringBuilder b = new StringBuilder(state(x));
        b.append(" torn ").append(x.torn()).append(' ').append(x.count(1)).append(' ').append(x.count(3));
        for (int k = 0; k <= 1; k++) {
            int day = x.back(k);
            b.append(" image ").append(day);
            if (day >= 0) b.append(' ').append(state(x));
        }
        for (int k = 0; k <= 3; k++) b.append(" sheet").append(sheet(x, k));
        return b.toString();
    }

    static String everything(FrankPost x) {
        StringBuilder b = new StringBuilder("tape ").append(x.count(2)).append(' ').append(x.fault()).append(' ').append(held(x));
        return b.append(" text ").append(x.text()).append(' ').append(x.fault()).append(' ').append(x.rule(3)).toString();
    }

    private static String sheet(FrankPost x, int k) {
        StringBuilder b = new StringBuilder();
        for (int lane = 0; lane <= 2; lane++) {
            x.burn(0);
            b.append(' ').append(x.read(k, lane, 0, 2)).append(' ').append(x.torn()).append(' ').append(x.count(4));
        }
        return b.toString();
    }

    /** The call answers so, and the object is then as another one that was not called. */
    final void refused(String name, Supplier<FrankPost> made, Call call, int want, int... a) {
        FrankPost x = made.get();
        StringBuilder b = new StringBuilder(name).append('(');
        for (int j = 0; j < a.length; j++) b.append(j == 0 ? "" : ", ").append(a[j]);
        String said = b.append(')').toString();
        due(said, call.on(x, a), want);
        holds(said + " changes nothing", everything(x).equals(everything(made.get())));
    }

    /** Argument at of a call that else is good: just outside its bounds, and far outside, it is BAD; on them it is not. */
    final void bounds(String name, Supplier<FrankPost> made, Call call, int[] good, int at, int least, int most) {
        for (int v : new int[] {LEAST, least - 1, most + 1, MOST}) {
            int[] a = good.clone();
            a[at] = v;
            refused(name, made, call, BAD, a);
        }
        for (int v : new int[] {least, most}) {
            int[] a = good.clone();
            a[at] = v;
            holds(name + " takes " + v + " as argument " + at, call.on(made.get(), a) != BAD);
        }
    }

    /** As bounds, of the number of a one: of few and of as many as there may be; and BAD of nobody. */
    final void boundsOfOne(String name, Call call, int[] good, int at) {
        bounds(name, this::rich, call, good, at, 0, 2);
        bounds(name, this::many, call, good, at, 0, 4);
        refused(name, FrankPost::new, call, BAD, good);
    }

    /** As bounds, of the number of a letter; and BAD where there are none. */
    final void boundsOfLetter(String name, Call call, int[] good, int at) {
        bounds(name, this::rich, call, good, at, 0, 1);
        bounds(name, this::many, call, good, at, 0, 5);
        refused(name, () -> told("plain 0 10;plain 0 10;"), call, BAD, good);
        refused(name, FrankPost::new, call, BAD, good);
    }
}
