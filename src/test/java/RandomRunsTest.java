import java.util.Random;

// All promises: random runs of calls, each answer compared with that of the model.
// The seeds are told, so that each run is the same each time.
public final class RandomRunsTest {
    private static final int RUNS = 1500;
    private static final int CALLS = 512;
    private static final String[] WORDS = {"place", "frost", "warm", "cold", "sound", "person"};
    private static final int[] FAR = {-1, -2, 9, 10, 31, 32, 33, 100, -100, Integer.MAX_VALUE, Integer.MIN_VALUE};
    private static final Check c = new Check();

    private final Random random;
    private final ThawWords x = new ThawWords();
    private final Model y = new Model();
    private int calls = 0;

    private RandomRunsTest(int seed) {
        random = new Random(seed);
    }

    public static void main(String[] args) {
        for (int seed = 0; seed < RUNS; seed++) new RandomRunsTest(seed).run(seed);
        c.end();
    }

    private void run(int seed) {
        boolean tellsCape = random.nextInt(20) > 0;
        if (tellsCape) readCape(seed, cape());
        while (calls < CALLS) {
            int kind = random.nextInt(200);
            if (kind == 0) readCape(seed, cape());
            else if (kind <= 2) readCape(seed, spoiled(cape()));
            else call(seed, random.nextInt(30));
        }
    }

    private void due(int seed, String call, long got, long want) {
        calls++;
        c.due("seed " + seed + ", call " + calls + ": " + call, got, want);
    }

    private int number(int below) {
        return random.nextInt(24) == 0 ? FAR[random.nextInt(FAR.length)] : random.nextInt(below);
    }

    // A text without a fault, with places and people more often than not.
    private String cape() {
        StringBuilder text = new StringBuilder();
        int places = 1 + random.nextInt(4);
        for (int i = 0; i < places; i++) text.append("place ").append(random.nextInt(6)).append(';');
        int hours = random.nextInt(25);
        for (int left = hours; left > 0; ) {
            int n = 1 + random.nextInt(Math.min(left, 5));
            text.append(WORDS[1 + random.nextInt(2)]).append(' ').append(random.nextInt(random.nextInt(5) == 0 ? 21 : 9)).append(' ').append(n).append(';');
            left -= n;
        }
        for (int i = random.nextInt(6); i > 0; i--) text.append(WORDS[3 + random.nextInt(2)]).append(' ').append(random.nextInt(10)).append(';');
        for (int i = random.nextInt(5); i > 0; i--) text.append("person ").append(random.nextInt(5)).append(' ').append(random.nextInt(places)).append(';');
        return text.toString();
    }

    private String spoiled(String text) {
        StringBuilder t = new StringBuilder(text);
        for (int i = 1 + random.nextInt(3); i > 0 && t.length() > 0; i--) {
            int at = random.nextInt(t.length());
            switch (random.nextInt(6)) {
                case 0: t.deleteCharAt(at); break;
                case 1: t.insert(at, (char) ('0' + random.nextInt(10))); break;
                case 2: t.insert(at, ' '); break;
                case 3: t.setCharAt(at, (char) random.nextInt(256)); break;
                case 4: t.insert(at, WORDS[random.nextInt(6)]); break;
                default: t.setLength(at);
            }
        }
        return t.toString();
    }

    private void readCape(int seed, String text) {
        due(seed, "clear", x.clear(), y.clear());
        for (int from = 0; from < text.length(); ) {
            int n = Math.min(1 + random.nextInt(8), text.length() - from);
            long v = random.nextLong();
            for (int i = from; i < from + n; i++) v = v << 8 | text.charAt(i);
            due(seed, "type " + v + " " + n, x.type(v, n), y.type(v, n));
            from += n;
        }
        due(seed, "cape of '" + text + "'", x.cape(), y.cape());
    }

    private void call(int seed, int kind) {
        int a = number(9), b = number(5), e = number(5);
        switch (kind) {
            case 0: due(seed, "place " + b + " " + e, x.place(b, e), y.place(b, e)); break;
            case 1: a = number(100); due(seed, "warmth " + a, x.warmth(a), y.warmth(a)); break;
            case 2: due(seed, "melts " + b, x.melts(b), y.melts(b)); break;
            case 3: b = number(4); e = number(3); due(seed, "person " + b + " " + e, x.person(b, e), y.person(b, e)); break;
            case 4: case 5: case 6: says(seed); break;
            case 7: due(seed, "goes " + b + " " + e, x.goes(b, e), y.goes(b, e)); break;
            case 8: due(seed, "lantern " + b, x.lantern(b), y.lantern(b)); break;
            case 9: a = random.nextInt(30) == 0 ? number(100) : number(4); due(seed, "go " + a, x.go(a), y.go(a)); break;
            case 10: a = number(8); e = number(6); due(seed, "saying " + a + " " + e, x.saying(a, e), y.saying(a, e)); break;
            case 11: due(seed, "soundOf " + a + " " + b, x.soundOf(a, b), y.soundOf(a, b)); break;
            case 12: heard(seed); break;
            case 13: due(seed, "now " + b, x.now(b), y.now(b)); break;
            case 14: if (random.nextInt(8) == 0) due(seed, "anew", x.anew(), y.anew()); break;
            case 15: due(seed, "when " + a + " " + b, x.when(a, b), y.when(a, b)); break;
            case 16: due(seed, "whole " + a, x.whole(a), y.whole(a)); break;
            case 17: hours(seed); break;
            case 18: due(seed, "fits " + b, x.fits(b), y.fits(b)); break;
            case 19: case 20: lanterns(seed); break;
            case 21: b = number(9); due(seed, "answers " + a + " " + b, x.answers(a, b), y.answers(a, b)); break;
            case 22: due(seed, "spoke " + a, x.spoke(a), y.spoke(a)); break;
            case 23: odds(seed); break;
            case 24: b = number(7); due(seed, "rate " + b + " " + a, x.rate(b, a), y.rate(b, a)); break;
            case 25: a = number(2); due(seed, "keep " + a, x.keep(a), y.keep(a)); break;
            case 26: a = number(2); due(seed, "back " + a, x.back(a), y.back(a)); break;
            case 27: due(seed, "count " + b, x.count(b), y.count(b)); break;
            case 28: due(seed, "trace", x.trace(), y.trace()); break;
            default: a = number(10); due(seed, "type " + a, x.type(~a, a), y.type(~a, a));
        }
    }

    private void says(int seed) {
        int p = number(4), loud = 1 + number(9), sounds = 0;
        for (int i = 1 + random.nextInt(4); i > 0; i--) sounds = 10 * sounds + 1 + random.nextInt(1 + random.nextInt(5));
        if (random.nextInt(20) == 0) sounds = number(20000);
        due(seed, "says " + p + " " + loud + " " + sounds, x.says(p, loud, sounds), y.says(p, loud, sounds));
    }

    private void heard(int seed) {
        int p = number(4), what = number(2);
        for (int i = number(3); i >= -1 && i < 34; i += 1 + random.nextInt(6)) {
            if (calls < CALLS) due(seed, "heard " + p + " " + i + " " + what, x.heard(p, i, what), y.heard(p, i, what));
        }
    }

    private void hours(int seed) {
        int sound = number(5), place = number(4), now = x.now(0);
        int hour = random.nextBoolean() ? number(100) : now + number(12);
        calls++;
        due(seed, "hours " + sound + " " + place + " " + hour, x.hours(sound, place, hour), y.hours(sound, place, hour));
    }

    private void lanterns(int seed) {
        int told = random.nextBoolean() ? 1 << random.nextInt(8) : random.nextInt();
        int others = random.nextBoolean() ? 1 << random.nextInt(8) : random.nextInt(3) == 0 ? random.nextInt() : 0;
        due(seed, "lanterns " + told + " " + others, x.lanterns(told, others), y.lanterns(told, others));
    }

    private void odds(int seed) {
        // Where many weathers are to be counted, only now and then.
        int d = number(4), n = 1 + number(random.nextInt(300) == 0 ? 7 : 4), what = number(2), sound = number(5), place = number(4);
        due(seed, "odds " + sound + " " + place + " " + d + " " + n + " " + what, x.odds(sound, place, d, n, what), y.odds(sound, place, d, n, what));
    }
}
