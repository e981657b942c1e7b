import java.math.BigInteger;
import java.util.ArrayList;
import java.util.HashMap;
import java.util.List;
import java.util.Map;
import java.util.function.Consumer;
import java.util.function.ToIntFunction;
import java.util.regex.Matcher;
import java.util.regex.Pattern;

/**
 * The document once more, written without a look at speed or at the rules of LANGUAGE.md, and by other means than
 * FrankPost where there are any: texts by patterns, days without a post one by one, sheets that the machine itself
 * refuses. ModelTest holds both against each other.
 */
final class PostModel {
    static final int BAD = -1, STATE = -2, FULL = -3, NONE = -4;

    static final class One {
        int kind, door, mood;
        One(int kind, int door, int mood) { this.kind = kind; this.door = door; this.mood = mood; }
    }

    static final class Letter {
        int from, to, about, tone, at, leg;
        Letter(int from, int to, int about, int tone) { this.from = from; this.to = to; this.about = about; this.tone = tone; }
    }

    static final class World {
        List<One> ones = new ArrayList<>();
        List<Letter> letters = new ArrayList<>();
        List<int[]> seen = new ArrayList<>();
        int pace = 2, day = 0;

        World copy() {
            World w = new World();
            for (One o : ones) w.ones.add(new One(o.kind, o.door, o.mood));
            for (Letter l : letters) {
                Letter m = new Letter(l.from, l.to, l.about, l.tone);
                m.at = l.at;
                m.leg = l.leg;
                w.letters.add(m);
            }
            for (int[] s : seen) w.seen.add(s.clone());
            w.pace = pace;
            w.day = day;
            return w;
        }

        World behind(int n) {
            World w = copy();
            for (int d = 0; d < n; d++) w.step();
            return w;
        }

        World with(Consumer<World> change) {
            World w = copy();
            change.accept(w);
            return w;
        }

        /** Who read what: 10 times the letter and who. */
        List<Integer> step() {
            List<Integer> reads = new ArrayList<>();
            for (Letter l : letters) {
                if (l.leg > 1) continue;
                int who = l.leg == 0 ? l.about : l.to;
                One reader = ones.get(who);
                for (int s = 0; s < pace; s++) l.at += Integer.signum(reader.door - l.at);
                if (l.at != reader.door) continue;
                reads.add(10 * letters.indexOf(l) + who);
                int feeling = feeling(reader.kind, l.tone - 9);
                if (l.leg == 1) {
                    reader.mood = clamp(reader.mood + (int) Math.signum(feeling) * (Math.abs(feeling) / 2));
                    l.leg = 2;
                } else {
                    reader.mood = clamp(reader.mood + feeling);
                    boolean plainSends = l.tone - 9 >= -3;
                    boolean sends = reader.kind >= 2 || plainSends && (reader.kind == 0 || l.tone >= 9);
                    l.leg = sends ? 1 : 3;
                    if (sends) l.tone = Math.min(18, l.tone + Math.max(0, reader.kind - 1));
                }
            }
            day++;
            return reads;
        }

        int moods() { return ones.stream().mapToInt(o -> o.mood).sum(); }

        int bits(int leg) {
            int b = 0;
            for (int i = 0; i < letters.size(); i++) if (letters.get(i).leg == leg) b += 1 << i;
            return b;
        }

        boolean allAsSeen() {
            for (int[] s : seen) if (behind(s[0]).ones.get(s[1]).mood != s[2]) return false;
            return true;
        }
    }

    static int clamp(int mood) { return Math.max(0, Math.min(20, mood)); }

    static int feeling(int kind, int t) {
        int kindly = t >= 0 ? t : -(-t / 2);
        return new int[] {t, 2 * t, kindly, kindly + 1}[kind];
    }

    World w = new World();
    StringBuilder tape = new StringBuilder();
    World[] images = new World[2];
    Object[] sheets = new Object[4];
    int lastFault = 0, lastTorn = 0;

    static boolean in(int v, int a, int b) { return a <= v && v <= b; }
    boolean isOne(int p) { return in(p, 0, w.ones.size() - 1); }
    boolean isLetter(int i) { return in(i, 0, w.letters.size() - 1); }

    int feed(int c) {
        if (!in(c, 0, 127)) return BAD;
        if (tape.length() == 160) return FULL;
        return tape.append((char) c).length();
    }

    int end(int n) {
        if (!in(n, 0, tape.length())) return BAD;
        int had = tape.length();
        tape.setLength(n);
        return had;
    }

    static final class TextFault extends Exception {
        private static final long serialVersionUID = 1L;
        final int which, where;
        TextFault(int which, int where) { this.which = which; this.where = where; }
    }

    static final Pattern TOKEN = Pattern.compile(" *([a-z]+|[0-9]+|;|$|[^ ])", Pattern.DOTALL);

    static World parse(String s, int[] lines) throws TextFault {
        World t = new World();
        Matcher m = TOKEN.matcher(s);
        int at = 0;
        boolean pace = false;
        List<String> names = List.of("plain", "proud", "kind", "sly", "letter", "pace");
        while (true) {
            at = token(m, at, s);
            String name = m.group(1);
            int start = m.start(1);
            if (name.isEmpty()) break;
            int which = names.indexOf(name);
            if (which < 0) throw new TextFault(2, start);
            if (which == 5 && pace) throw new TextFault(4, start);
            if (which < 4 && t.ones.size() == 5 || which == 4 && t.letters.size() == 6) throw new TextFault(5, start);
            int[][] bounds = which < 4 ? new int[][] {{0, 9}, {0, 20}}
                : which == 4 ? new int[][] {{0, 4}, {0, 4}, {0, 4}, {0, 18}} : new int[][] {{1, 4}};
            int[] v = new int[4];
            for (int j = 0; j < bounds.length; j++) {
                at = token(m, at, s);
                if (!m.group(1).matches("[0-9]+")) throw new TextFault(2, m.start(1));
                v[j] = Integer.parseInt(m.group(1));
                if (!in(v[j], bounds[j][0], bounds[j][1])) throw new TextFault(3, m.start(1));
            }
            at = token(m, at, s);
            if (!m.group(1).equals(";")) throw new TextFault(2, m.start(1));
            if (which < 4) t.ones.add(new One(which, v[0], v[1]));
            else if (which == 4) t.letters.add(new Letter(v[0], v[1], v[2], v[3]));
            else { t.pace = v[0]; pace = true; }
            lines[0]++;
        }
        for (Letter l : t.letters) {
            if (Math.max(l.from, Math.max(l.to, l.about)) >= t.ones.size()) throw new TextFault(6, s.length());
            l.at = t.ones.get(l.from).door;
        }
        return t;
    }

    static int token(Matcher m, int at, String s) throws TextFault {
        if (!m.find(at)) throw new IllegalStateException("every place has a token or the end: " + at + " in " + s);
        String g = m.group(1);
        boolean strange = g.length() == 1 && !g.matches("[a-z0-9;]");
        if (strange || g.matches("[0-9]{3,}")) throw new TextFault(1, m.start(1));
        return m.end(1);
    }

    int text() {
        String s = tape.toString();
        tape.setLength(0);
        int[] lines = new int[1];
        try {
            w = parse(s, lines);
        } catch (TextFault f) {
            lastFault = f.which;
            return -10 - f.where;
        }
        lastFault = 0;
        images = new World[2];
        return lines[0];
    }

    int fault() { return lastFault; }

    int rule(int what) {
        if (!in(what, 0, 6)) return BAD;
        return new int[] {w.ones.size(), w.letters.size(), w.day, w.pace, w.moods(), w.bits(2), w.bits(3)}[what];
    }

    int one(int p, int what) {
        if (!isOne(p) || !in(what, 0, 3)) return BAD;
        One o = w.ones.get(p);
        int bits = 0;
        for (int i = 0; i < w.letters.size(); i++) {
            Letter l = w.letters.get(i);
            if (l.leg == 0 && l.about == p || l.leg == 1 && l.to == p) bits += 1 << i;
        }
        return new int[] {o.kind, o.door, o.mood, bits}[what];
    }

    int letter(int i, int what) {
        if (!isLetter(i) || !in(what, 0, 5)) return BAD;
        Letter l = w.letters.get(i);
        return new int[] {l.from, l.to, l.about, l.tone, l.at, l.leg}[what];
    }

    int feels(int p, int tone) {
        return isOne(p) && in(tone, 0, 18) ? 40 + feeling(w.ones.get(p).kind, tone - 9) : BAD;
    }

    int alter(int p, int what, int v) {
        if (!isOne(p) || !in(what, 0, 2) || !in(v, 0, new int[] {3, 9, 20}[what])) return BAD;
        One o = w.ones.get(p);
        int was = new int[] {o.kind, o.door, o.mood}[what];
        if (what == 0) o.kind = v;
        if (what == 1) o.door = v;
        if (what == 2) o.mood = v;
        return was;
    }

    int tone(int i, int v) {
        if (!isLetter(i) || !in(v, 0, 18)) return BAD;
        Letter l = w.letters.get(i);
        if (l.leg > 1) return STATE;
        int was = l.tone;
        l.tone = v;
        return was;
    }

    int pace(int v) {
        if (!in(v, 1, 4)) return BAD;
        int was = w.pace;
        w.pace = v;
        return was;
    }

    int write(int from, int to, int about, int tone) {
        if (!isOne(from) || !isOne(to) || !isOne(about) || !in(tone, 0, 18)) return BAD;
        if (w.letters.size() == 6) return FULL;
        Letter l = new Letter(from, to, about, tone);
        l.at = w.ones.get(from).door;
        w.letters.add(l);
        return w.letters.size();
    }

    int burn(int n) { return cut(w.letters, n); }

    static int cut(List<?> list, int n) {
        if (!in(n, 0, list.size())) return BAD;
        int had = list.size();
        while (list.size() > n) list.remove(list.size() - 1);
        return had;
    }

    int days(int n) {
        if (!in(n, 0, 30)) return BAD;
        if (w.day + n >= 1000) return FULL;
        int before = Integer.bitCount(w.bits(2));
        for (int d = 0; d < n; d++) w.step();
        return Integer.bitCount(w.bits(2)) - before;
    }

    int runs(int n, int what) {
        if (!in(n, 0, 60) || !in(what, 0, 3)) return BAD;
        World t = w.copy();
        int idle = 0;
        for (int d = 0; d < n; d++) if (t.step().isEmpty()) idle++;
        return new int[] {t.moods(), t.bits(2), t.bits(3), idle}[what];
    }

    int ahead(int p, int n) { return isOne(p) && in(n, 0, 60) ? w.behind(n).ones.get(p).mood : BAD; }

    int comes(int i) {
        if (!isLetter(i)) return BAD;
        for (int d = 0; d <= 60; d++) if (w.behind(d).letters.get(i).leg == 2) return d;
        return NONE;
    }

    /** The first of the choices by which the world tells most, above the floor. */
    static int best(List<Integer> choices, int floor, int what, ToIntFunction<Integer> moods) {
        int best = NONE;
        int most = floor;
        for (int c : choices) {
            int m = moods.applyAsInt(c);
            if (m > most) {
                most = m;
                best = c;
            }
        }
        return best == NONE ? NONE : what == 0 ? best : most;
    }

    static List<Integer> upTo(int n) {
        List<Integer> all = new ArrayList<>();
        for (int j = 0; j < n; j++) all.add(j);
        return all;
    }

    int say(int i, int n, int what) {
        if (!isLetter(i) || !in(n, 0, 60) || !in(what, 0, 1)) return BAD;
        if (w.letters.get(i).leg > 1) return STATE;
        return best(upTo(19), -1, what, v -> w.with(t -> t.letters.get(i).tone = v).behind(n).moods());
    }

    int need(int i, int n) {
        if (!isLetter(i) || !in(n, 0, 60)) return BAD;
        if (w.letters.get(i).leg > 1) return STATE;
        for (int v : upTo(19)) if (w.with(t -> t.letters.get(i).tone = v).behind(n).letters.get(i).leg == 2) return v;
        return NONE;
    }

    int about(int i, int n, int what) {
        if (!isLetter(i) || !in(n, 0, 60) || !in(what, 0, 1)) return BAD;
        if (w.letters.get(i).leg != 0) return STATE;
        return best(upTo(w.ones.size()), -1, what, p -> w.with(t -> t.letters.get(i).about = p).behind(n).moods());
    }

    int swap(int n, int what) {
        if (!in(n, 0, 60) || !in(what, 0, 1)) return BAD;
        List<Integer> pairs = new ArrayList<>();
        for (int c = 0; c < 50; c++) if (c / 10 < c % 10 && c % 10 < w.ones.size()) pairs.add(c);
        return best(pairs, w.behind(n).moods(), what, c -> w.with(t -> {
            t.ones.get(c / 10).door = w.ones.get(c % 10).door;
            t.ones.get(c % 10).door = w.ones.get(c / 10).door;
        }).behind(n).moods());
    }

    int stop(int n, int what) {
        if (!in(n, 0, 60) || !in(what, 0, 1)) return BAD;
        List<Integer> going = upTo(w.letters.size());
        going.removeIf(i -> w.letters.get(i).leg > 1);
        return best(going, w.behind(n).moods(), what, i -> w.with(t -> t.letters.get(i).leg = 3).behind(n).moods());
    }

    int kind(int p, int n, int what) {
        if (!isOne(p) || !in(n, 0, 60) || !in(what, 0, 1)) return BAD;
        return best(upTo(4), -1, what, k -> w.with(t -> t.ones.get(p).kind = k).behind(n).moods());
    }

    /** Each of the 2 to the n ways in which days have a post or none, with its odds by 10 to the n. */
    long overWays(int v, int n, int what, ToIntFunction<World> told) {
        BigInteger sum = BigInteger.ZERO;
        BigInteger all = BigInteger.TEN.pow(n);
        for (int way = 0; way < 1 << n; way++) {
            World t = w.copy();
            BigInteger odds = BigInteger.ONE;
            for (int d = 0; d < n; d++) {
                boolean none = (way >> d & 1) == 1;
                odds = odds.multiply(BigInteger.valueOf(none ? v : 10 - v));
                if (!none) t.step();
            }
            sum = sum.add(odds.multiply(BigInteger.valueOf(told.applyAsInt(t))));
        }
        BigInteger g = sum.gcd(all);
        return (what == 0 ? sum : all).divide(g).longValueExact();
    }

    long luck(int v, int i, int n, int what) {
        if (!in(v, 0, 10) || !isLetter(i) || !in(n, 0, 8) || !in(what, 0, 1)) return BAD;
        return overWays(v, n, what, t -> t.letters.get(i).leg == 2 ? 1 : 0);
    }

    long mean(int v, int n, int what) {
        if (!in(v, 0, 10) || !in(n, 0, 8) || !in(what, 0, 1)) return BAD;
        return overWays(v, n, what, World::moods);
    }

    int see(int n, int p, int v) {
        if (!in(n, 0, 20) || !isOne(p) || !in(v, 0, 20)) return BAD;
        if (w.seen.size() == 6) return FULL;
        w.seen.add(new int[] {n, p, v});
        return w.seen.size();
    }

    int forget(int n) { return cut(w.seen, n); }

    int kinds(int p) {
        if (!isOne(p)) return BAD;
        int bits = 0;
        for (int k : upTo(4)) if (w.with(t -> t.ones.get(p).kind = k).allAsSeen()) bits += 1 << k;
        return bits;
    }

    int tones(int i) {
        if (!isLetter(i)) return BAD;
        if (w.letters.get(i).leg > 1) return STATE;
        int bits = 0;
        for (int v : upTo(19)) if (w.with(t -> t.letters.get(i).tone = v).allAsSeen()) bits += 1 << v;
        return bits;
    }

    int ask(int i, int what) {
        if (!isLetter(i) || !in(what, 0, 1)) return BAD;
        if (w.letters.get(i).leg > 1) return STATE;
        List<Integer> left = upTo(19);
        int bits = tones(i);
        left.removeIf(v -> (bits >> v & 1) == 0);
        int best = NONE;
        int fewest = left.size();
        for (int d = 0; d <= 20; d++) {
            List<World> worlds = new ArrayList<>();
            for (int v : left) worlds.add(w.with(t -> t.letters.get(i).tone = v).behind(d));
            for (int p = 0; p < w.ones.size(); p++) {
                Map<Integer, Integer> groups = new HashMap<>();
                for (World t : worlds) groups.merge(t.ones.get(p).mood, 1, Integer::sum);
                int worst = groups.values().stream().mapToInt(x -> x).max().orElse(0);
                if (worst < fewest) {
                    fewest = worst;
                    best = 10 * d + p;
                }
            }
        }
        return best == NONE ? NONE : what == 0 ? best : fewest;
    }

    int drift(int seed, int n, int what) {
        if (!in(n, 1, 60) || !in(what, 0, 1)) return BAD;
        if (w.letters.isEmpty()) return STATE;
        World t = w.copy();
        long s = seed & 0xffffffffL;
        int came = 0;
        for (int d = 0; d < n; d++) {
            s = (s * 1103515245L + 12345L) & 0xffffffffL;
            int got = (int) (s / 65536 % 32768);
            Letter l = t.letters.get(got % t.letters.size());
            l.at = t.ones.get(l.from).door;
            l.leg = 0;
            l.tone = got / 8 % 19;
            int before = t.bits(2);
            t.step();
            came += Integer.bitCount(t.bits(2) & ~before);
        }
        return what == 0 ? t.moods() : came;
    }

    int keep(int k) {
        if (!in(k, 0, 1)) return BAD;
        int was = images[k] == null ? 0 : 1;
        images[k] = w.copy();
        return was;
    }

    int back(int k) {
        if (!in(k, 0, 1)) return BAD;
        if (images[k] == null) return STATE;
        w = images[k].copy();
        return w.day;
    }

    int sheet(int k, int lane, int n) {
        if (!in(k, 0, 3) || !in(lane, 0, 2) || n > 40) return BAD;
        try {
            sheets[k] = lane == 0 ? new byte[n] : lane == 1 ? new short[n] : (Object) new int[n];
        } catch (NegativeArraySizeException e) {
            return -14;
        }
        return 1;
    }

    int lay(int k, int i, int v) {
        if (!in(k, 0, 3)) return BAD;
        try {
            if (sheets[k] instanceof byte[] b) b[i] = (byte) v;
            else if (sheets[k] instanceof short[] s) s[i] = (short) v;
            else ((int[]) sheets[k])[i] = v;
        } catch (NullPointerException e) {
            return -11;
        } catch (ArrayIndexOutOfBoundsException e) {
            return -12;
        }
        return 1;
    }

    int read(int k, int lane, int f, int n) {
        if (!in(k, 0, 3) || !in(lane, 0, 2) || !in(n, 0, 10)) return BAD;
        int before = w.letters.size();
        int came = 0;
        int torn = 0;
        try {
            for (int i = 0; i < n; i++) {
                // Taken anew for each letter: where none is read, nothing is refused.
                byte[] b = lane == 0 ? (byte[]) sheets[k] : null;
                short[] s = lane == 1 ? (short[]) sheets[k] : null;
                int[] t = lane == 2 ? (int[]) sheets[k] : null;
                int[] c = new int[4];
                for (int j = 0; j < 4; j++) {
                    int at = f + 4 * i + j;
                    c[j] = lane == 0 ? b[at] : lane == 1 ? s[at] : t[at];
                }
                if (write(c[0], c[1], c[2], c[3]) < 0) {
                    burn(before);
                    return -20 - i;
                }
                came++;
            }
        } catch (NullPointerException e) {
            torn = 1;
        } catch (ArrayIndexOutOfBoundsException e) {
            torn = 2;
        } catch (ClassCastException e) {
            torn = 3;
        }
        lastTorn = torn;
        return came;
    }

    int torn() { return lastTorn; }

    int count(int what) {
        switch (what) {
            case 0: return w.seen.size();
            case 1: return (images[0] == null ? 0 : 1) + (images[1] == null ? 0 : 1);
            case 2: return tape.length();
            case 3: return sheets[0] == null ? NONE : java.lang.reflect.Array.getLength(sheets[0]);
            case 4: return w.letters.stream().mapToInt(l -> l.tone).sum();
            case 5: return w.ones.stream().mapToInt(o -> o.door).sum();
            default: return BAD;
        }
    }
}
