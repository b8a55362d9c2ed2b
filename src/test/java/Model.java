import java.util.ArrayList;
import java.util.Comparator;
import java.util.List;
import java.util.regex.Matcher;
import java.util.regex.Pattern;

// The document told a second time, in another way: what is to come is found by letting it come
// on a copy. Random runs compare the class with it.
final class Model {
    private static final Pattern TOKEN = Pattern.compile(" *([a-z]+|[0-9]+|;|.|\\z)", Pattern.DOTALL);

    private static final class Said {
        int number, who, where, hour, loud;
        List<Integer> standers = new ArrayList<>();
        List<Integer> sounds = new ArrayList<>();
        List<Integer> heardIn = new ArrayList<>();

        Said copy() {
            Said s = new Said();
            s.number = number; s.who = who; s.where = where; s.hour = hour; s.loud = loud;
            s.standers.addAll(standers);
            s.sounds.addAll(sounds);
            s.heardIn.addAll(heardIn);
            return s;
        }

        int hanging() {
            int many = 0;
            for (Integer h : heardIn) if (h == null) many++;
            return many;
        }
    }

    private static final class Moment {
        int hour;
        List<Said> said = new ArrayList<>();
        List<List<int[]>> heard = new ArrayList<>();
        List<Integer> stands = new ArrayList<>();
        boolean[] lit = new boolean[4];

        Moment copy() {
            Moment m = new Moment();
            m.hour = hour;
            for (Said s : said) m.said.add(s.copy());
            for (List<int[]> h : heard) m.heard.add(new ArrayList<>(h));
            m.stands.addAll(stands);
            m.lit = lit.clone();
            return m;
        }
    }

    private static final class Land {
        final List<Integer> colder = new ArrayList<>(), warm = new ArrayList<>(), melt = new ArrayList<>();
        final List<int[]> people = new ArrayList<>();
    }

    private String text = "";
    private Land land = new Land();
    private Moment m = new Moment();
    private Moment[] images = new Moment[2];
    private long trace = 0;

    int type(long v, int n) {
        if (n < 1 || n > 8) return -1;
        if (text.length() + n > 300) return -3;
        String hex = String.format("%016x", v);
        for (int i = 16 - 2 * n; i < 16; i += 2) text += (char) Integer.parseInt(hex.substring(i, i + 2), 16);
        return text.length();
    }

    int clear() {
        int n = text.length();
        text = "";
        return n;
    }

    int cape() {
        Land l = new Land();
        Matcher t = TOKEN.matcher(text);
        int items = 0;
        List<String> item = new ArrayList<>();
        for (int at = 0; ; at = t.end()) {
            t.region(at, text.length());
            if (!t.lookingAt()) throw new IllegalStateException();
            String token = t.group(1);
            if (token.isEmpty() && item.isEmpty()) break;
            if (!mayStand(l, item, token)) return -10 - t.start(1);
            item.add(token);
            if (!token.equals(";")) continue;
            take(l, item);
            item.clear();
            items++;
        }
        land = l;
        text = "";
        images = new Moment[2];
        m = first();
        return items;
    }

    private static boolean mayStand(Land l, List<String> item, String token) {
        if (item.isEmpty()) {
            switch (token) {
                case "place": return l.colder.size() < 4;
                case "sound": case "cold": return l.melt.size() < 5;
                case "person": return l.people.size() < 4;
                default: return token.equals("warm") || token.equals("frost");
            }
        }
        String word = item.get(0);
        boolean two = word.equals("warm") || word.equals("frost") || word.equals("person");
        if (item.size() == (two ? 3 : 2)) return token.equals(";");
        if (!token.matches("0|[1-9][0-9]?")) return false;
        int v = Integer.parseInt(token);
        if (word.equals("person")) return item.size() == 1 ? v <= 9 : v < l.colder.size();
        if (two) return item.size() == 1 ? v <= 20 : v >= 1 && v + l.warm.size() <= 24;
        return v <= 9;
    }

    private static void take(Land l, List<String> item) {
        int a = Integer.parseInt(item.get(1));
        switch (item.get(0)) {
            case "place": l.colder.add(a); break;
            case "sound": l.melt.add(a); break;
            case "cold": l.melt.add(-a); break;
            case "person": l.people.add(new int[] {a, Integer.parseInt(item.get(2))}); break;
            default:
                for (int i = Integer.parseInt(item.get(2)); i > 0; i--) l.warm.add(item.get(0).equals("warm") ? a : -a);
        }
    }

    private Moment first() {
        Moment f = new Moment();
        for (int[] p : land.people) {
            f.stands.add(p[1]);
            f.heard.add(new ArrayList<>());
        }
        return f;
    }

    private int warm(int hour) {
        if (land.warm.isEmpty()) return 0;
        return hour < land.warm.size() ? land.warm.get(hour) : land.warm.get(land.warm.size() - 1);
    }

    private int air(Moment x, int place) {
        return warm(x.hour) - land.colder.get(place) + (x.lit[place] ? 5 : 0);
    }

    private boolean in(int i, List<?> list) {
        return i >= 0 && i < list.size();
    }

    int place(int p, int what) {
        if (!in(p, land.colder) || what < 0 || what > 3) return -1000000;
        int hang = 0;
        for (Said s : m.said) if (s.where == p) hang += s.hanging();
        return new int[] {land.colder.get(p), air(m, p), hang, m.lit[p] ? 1 : 0}[what];
    }

    int warmth(int hour) { return hour < 0 || hour > 99 ? -1000000 : warm(hour); }

    int melts(int s) { return in(s, land.melt) ? land.melt.get(s) : -1000000; }

    int person(int p, int what) {
        if (!in(p, land.people) || what < 0 || what > 2) return -1;
        return new int[] {land.people.get(p)[0], m.stands.get(p), m.heard.get(p).size()}[what];
    }

    private void hear(Moment x, Said s, int i) {
        s.heardIn.set(i, x.hour);
        for (int p = 0; p < x.stands.size(); p++) {
            if (x.stands.get(p) == s.where && x.heard.get(p).size() < 60) x.heard.get(p).add(new int[] {s.number, s.sounds.get(i)});
        }
    }

    private int melt(Moment x, int place) {
        List<Said> order = new ArrayList<>(x.said);
        order.sort(Comparator.comparingInt((Said s) -> -s.loud).thenComparingInt(s -> s.number));
        int many = 0;
        for (Said s : order) {
            for (int i = 0; i < s.sounds.size() && s.where == place; i++) {
                if (s.heardIn.get(i) != null || land.melt.get(s.sounds.get(i)) > air(x, place)) continue;
                hear(x, s, i);
                many++;
            }
        }
        return many;
    }

    private int pass(Moment x) {
        x.lit = new boolean[4];
        x.hour++;
        int many = 0;
        for (int place = 0; place < land.colder.size(); place++) many += melt(x, place);
        return many;
    }

    int says(int p, int loud, int sounds) {
        if (!in(p, land.people) || loud < 1 || loud > 9 || !("" + sounds).matches("[1-5]{1,4}")) return -1;
        for (char figure : ("" + sounds).toCharArray()) if (!in(figure - '1', land.melt)) return -1;
        if (m.said.size() == 8) return -3;
        return say(m, p, m.stands.get(p), loud, "" + sounds);
    }

    private int say(Moment x, int p, int place, int loud, String figures) {
        Said s = new Said();
        s.number = x.said.size(); s.who = p; s.where = place; s.hour = x.hour; s.loud = loud;
        for (int q = 0; q < x.stands.size(); q++) if (x.stands.get(q) == place) s.standers.add(q);
        x.said.add(s);
        for (char figure : figures.toCharArray()) {
            s.sounds.add(figure - '1');
            s.heardIn.add(null);
            int i = s.sounds.size() - 1;
            if (land.melt.get(figure - '1') <= air(x, place)) hear(x, s, i);
        }
        return s.number;
    }

    int goes(int p, int place) {
        if (!in(p, land.people) || !in(place, land.colder)) return -1;
        return m.stands.get(p) == place ? -2 : m.stands.set(p, place);
    }

    int lantern(int place) {
        if (!in(place, land.colder)) return -1;
        if (m.lit[place]) return -2;
        m.lit[place] = true;
        return melt(m, place);
    }

    int go(int n) {
        if (n < 1 || n > 99) return -1;
        if (m.hour == 99) return -2;
        int many = 0;
        while (n-- > 0 && m.hour < 99) many += pass(m);
        return many;
    }

    int saying(int k, int what) {
        if (!in(k, m.said) || what < 0 || what > 5) return -1;
        Said s = m.said.get(k);
        return new int[] {s.who, s.where, s.hour, s.loud, s.sounds.size(), s.hanging()}[what];
    }

    int soundOf(int k, int i) {
        if (!in(k, m.said) || i < 0) return -1;
        return in(i, m.said.get(k).sounds) ? m.said.get(k).sounds.get(i) : -5;
    }

    int heard(int p, int i, int what) {
        if (!in(p, land.people) || i < 0 || what < 0 || what > 1) return -1;
        return in(i, m.heard.get(p)) ? m.heard.get(p).get(i)[what] : -5;
    }

    int now(int what) {
        if (what < 0 || what > 3) return -1;
        int hang = 0, bits = 0;
        for (Said s : m.said) hang += s.hanging();
        for (int p = 0; p < 4; p++) bits += m.lit[p] ? 1 << p : 0;
        return new int[] {m.hour, hang, m.said.size(), bits}[what];
    }

    int anew() {
        int hour = m.hour;
        m = first();
        return hour;
    }

    private Moment end() {
        Moment x = m.copy();
        while (x.hour < 99) pass(x);
        return x;
    }

    int when(int k, int i) {
        if (!in(k, m.said) || !in(i, m.said.get(k).sounds)) return -1;
        Integer hour = end().said.get(k).heardIn.get(i);
        return hour == null ? -9 : hour;
    }

    int whole(int k) {
        if (!in(k, m.said)) return -1;
        int last = -9;
        for (Integer hour : end().said.get(k).heardIn) {
            if (hour == null) return -9;
            last = Math.max(last, hour);
        }
        return last;
    }

    int hours(int sound, int place, int hour) {
        if (!in(sound, land.melt) || !in(place, land.colder) || hour < 0 || hour > 99) return -1;
        int bits = 0;
        Moment start = m.copy();
        for (int i = 0; i < 24 && m.hour + i <= 99; i++) {
            Moment x = start.copy();
            int k = say(x, -1, place, 1, "" + (sound + 1));
            while (x.said.get(k).heardIn.get(0) == null && x.hour < 99) pass(x);
            Integer h = x.said.get(k).heardIn.get(0);
            if (h != null && h == hour) bits += 1 << i;
            pass(start);
        }
        return bits;
    }

    int fits(int p) {
        if (!in(p, land.people)) return -1;
        int bits = 0;
        StringBuilder heard = new StringBuilder();
        for (int[] h : m.heard.get(p)) heard.append(h[1]);
        for (Said s : m.said) {
            StringBuilder pieces = new StringBuilder(".*");
            for (int sound : s.sounds) pieces.append(sound).append(".*");
            if (heard.toString().matches(pieces.toString())) bits += 1 << s.number;
        }
        return bits;
    }

    int lanterns(int told, int others) {
        int bits = 0;
        for (Said s : m.said) if ((told >> s.number & 1) == 1 && s.hanging() > 0) bits |= 1 << s.where;
        Moment x = m.copy();
        for (int p = 0; p < 4; p++) {
            if ((bits >> p & 1) == 0) continue;
            if (x.lit[p]) return -9;
            x.lit[p] = true;
            melt(x, p);
        }
        for (Said s : x.said) {
            if ((told >> s.number & 1) == 1 && s.hanging() > 0) return -9;
            if ((others >> s.number & 1) == 1 && s.hanging() < m.said.get(s.number).hanging()) return -9;
        }
        return bits;
    }

    int answers(int k, int l) {
        if (!in(k, m.said) || !in(l, m.said) || k == l) return -1;
        for (Integer hour : m.said.get(l).heardIn) if (hour == null || hour >= m.said.get(k).hour) return 0;
        return 1;
    }

    int spoke(int k) {
        if (!in(k, m.said)) return -1;
        int bits = 0;
        for (int p : m.said.get(k).standers) {
            int off = land.people.get(p)[0] - land.people.get(m.said.get(k).who)[0];
            if (off >= -1 && off <= 1) bits += 1 << p;
        }
        return bits;
    }

    long odds(int sound, int place, int d, int n, int what) {
        if (!in(sound, land.melt) || !in(place, land.colder) || d < 0 || d > 3 || n < 1 || n > 6 || what < 0 || what > 1) return -1000000;
        long all = 0, good = 0, weathers = 1;
        for (int i = 0; i < n; i++) weathers *= 2 * d + 1;
        for (long w = 0; w < weathers; w++) {
            boolean heard = false;
            long rest = w;
            for (int i = 1; i <= n; i++) {
                long more = rest % (2 * d + 1) - d;
                rest /= 2 * d + 1;
                heard |= warm(m.hour + i) + more - land.colder.get(place) >= land.melt.get(sound);
            }
            all++;
            if (heard) good++;
        }
        for (long by = 2; by <= all; by++) {
            while (all % by == 0 && good % by == 0) {
                all /= by;
                good /= by;
            }
        }
        return what == 0 ? good : all;
    }

    int rate(int kind, int k) {
        if (kind < 0 || kind > 5 || !in(k, m.said)) return -1000000;
        Said s = m.said.get(k);
        int n = s.sounds.size();
        trace += new long[] {1, 11, 101, 1011, 10101, 100001}[kind];
        return new int[] {n, n - s.loud, n + s.hanging(), 2 * (n - s.loud), n + s.hanging() + s.hour, n - s.where}[kind];
    }

    int keep(int image) {
        if (image < 0 || image > 1) return -1;
        images[image] = m.copy();
        return m.hour;
    }

    int back(int image) {
        if (image < 0 || image > 1) return -1;
        if (images[image] == null) return -2;
        m = images[image].copy();
        return m.hour;
    }

    int count(int what) {
        if (what < 0 || what > 4) return -1;
        return new int[] {land.colder.size(), land.warm.size(), land.melt.size(), land.people.size(), text.length()}[what];
    }

    long trace() { return trace; }
}
