// Words that thaw: sayings hang in frost where they were said, and melt sound by sound.
// ../shared/DOC.md tells what each call answers.
public final class ThawWords {
    public static final int BAD = -1, STATE = -2, FULL = -3, NONE = -9;
    public static final int NO = -1000000;

    private static final int NOT_SO_MANY = -5;
    private static final int FAULT_AT_0 = -10;
    private static final int LAST_HOUR = 99;
    private static final int LANTERN_WARMTH = 5;
    private static final int HOURS_TO_SAY = 24;
    private static final int MOST_BYTES = 300;
    private static final int MOST_PLACES = 4;
    private static final int MOST_HOURS = 24;
    private static final int MOST_SOUNDS = 5;
    private static final int MOST_PEOPLE = 4;
    private static final int MOST_SAYINGS = 8;
    private static final int MOST_SOUNDS_SAID = 4;
    private static final int MOST_HEARD = 60;
    private static final int HIGHEST_FIGURES = 9999;
    private static final int LOUDEST = 9;
    private static final int COLDEST_PLACE = 9;
    private static final int HIGHEST_PITCH = 9;
    private static final int HIGHEST_MELT = 9;
    private static final int HIGHEST_WARMTH = 20;
    private static final int MOST_UNSURE = 3;
    private static final int MOST_HOURS_OF_ODDS = 6;

    private final Text text = new Text();
    private final Cape known = new Cape();
    // A text with a fault must change nothing, so it is read into this one first.
    private final Cape draft = new Cape();
    private final Scene now = new Scene();
    private final Scene image0 = new Scene();
    private final Scene image1 = new Scene();
    private long trace = 0;

    public ThawWords() {
    }

    // ---- the cape

    public int type(long v, int n) {
        if (n < 1 || n > 8) return BAD;
        if (text.length + n > MOST_BYTES) return FULL;
        for (int i = n - 1; i >= 0; i--) text.add((int) (v >> (8 * i)) & 255);
        return text.length;
    }

    public int clear() {
        int had = text.length;
        text.length = 0;
        return had;
    }

    public int cape() {
        int items = text.readInto(draft);
        if (items < 0) return items;
        known.become(draft);
        text.length = 0;
        now.begin(known);
        image0.kept = false;
        image1.kept = false;
        return items;
    }

    public int place(int p, int what) {
        if (!known.isPlace(p)) return NO;
        switch (what) {
            case 0: return at(known.colder, p);
            case 1: return now.airIn(known, p, now.hour);
            case 2: return now.hangingAt(p);
            case 3: return now.isLit(p) ? 1 : 0;
            default: return NO;
        }
    }

    public int warmth(int hour) {
        return isHour(hour) ? known.warmthIn(hour) : NO;
    }

    public int melts(int sound) {
        return known.isSound(sound) ? at(known.melt, sound) : NO;
    }

    public int person(int p, int what) {
        Ear ear = earOf(p);
        if (ear == null) return BAD;
        switch (what) {
            case 0: return at(known.pitch, p);
            case 1: return at(now.stands, p);
            case 2: return ear.count;
            default: return BAD;
        }
    }

    // ---- hours

    public int says(int p, int loud, int sounds) {
        if (!known.isPerson(p) || loud < 1 || loud > LOUDEST || !areSounds(sounds)) return BAD;
        if (now.sayingCount >= MOST_SAYINGS) return FULL;
        return now.say(known, p, loud, sounds);
    }

    public int goes(int p, int place) {
        if (!known.isPerson(p) || !known.isPlace(place)) return BAD;
        int stood = at(now.stands, p);
        if (stood == place) return STATE;
        put(now.stands, p, place);
        return stood;
    }

    public int lantern(int place) {
        if (!known.isPlace(place)) return BAD;
        if (now.isLit(place)) return STATE;
        return now.light(known, place);
    }

    public int go(int n) {
        if (n < 1 || n > LAST_HOUR) return BAD;
        if (now.hour >= LAST_HOUR) return STATE;
        int melted = 0;
        for (int i = 0; i < n && now.hour < LAST_HOUR; i++) melted += now.passHour(known);
        return melted;
    }

    public int saying(int k, int what) {
        Saying s = now.sayingAt(k);
        if (s == null) return BAD;
        switch (what) {
            case 0: return s.who;
            case 1: return s.where;
            case 2: return s.hour;
            case 3: return s.loud;
            case 4: return s.length;
            case 5: return s.hanging();
            default: return BAD;
        }
    }

    public int soundOf(int k, int i) {
        Saying s = now.sayingAt(k);
        if (s == null || i < 0) return BAD;
        return i < s.length ? at(s.sounds, i) : NOT_SO_MANY;
    }

    public int heard(int p, int i, int what) {
        Ear ear = earOf(p);
        if (ear == null || i < 0 || what < 0 || what > 1) return BAD;
        if (i >= ear.count) return NOT_SO_MANY;
        return what == 0 ? at(ear.sayings, i) : at(ear.sounds, i);
    }

    public int now(int what) {
        switch (what) {
            case 0: return now.hour;
            case 1: return now.hanging();
            case 2: return now.sayingCount;
            case 3: return now.lanterns;
            default: return BAD;
        }
    }

    public int anew() {
        int was = now.hour;
        now.begin(known);
        return was;
    }

    // ---- what is told by it

    public int when(int k, int i) {
        Saying s = now.sayingAt(k);
        if (s == null || i < 0 || i >= s.length) return BAD;
        return now.hourOfHearing(known, s, i);
    }

    public int whole(int k) {
        Saying s = now.sayingAt(k);
        if (s == null) return BAD;
        int last = 0;
        for (int i = 0; i < s.length; i++) {
            int hour = now.hourOfHearing(known, s, i);
            if (hour == NONE) return NONE;
            last = Math.max(last, hour);
        }
        return last;
    }

    public int hours(int sound, int place, int hour) {
        if (!known.isSound(sound) || !known.isPlace(place) || !isHour(hour)) return BAD;
        int bits = 0;
        // Backwards from the told hour, as long as no hour ahead of it melts the sound.
        for (int h = hour; h >= now.hour; h--) {
            boolean melts = now.isThawing(known, sound, place, h);
            if (melts != (h == hour)) return bits;
            if (h - now.hour < HOURS_TO_SAY) bits |= 1 << (h - now.hour);
        }
        return bits;
    }

    public int fits(int p) {
        Ear ear = earOf(p);
        if (ear == null) return BAD;
        int bits = 0;
        for (int k = 0; k < now.sayingCount; k++) {
            Saying s = now.sayingAt(k);
            if (s != null && ear.holds(s)) bits |= 1 << k;
        }
        return bits;
    }

    public int lanterns(int told, int others) {
        int lit = now.placesOfHanging(told);
        if ((lit & now.lanterns) != 0) return NONE;
        for (int k = 0; k < now.sayingCount; k++) {
            Saying s = now.sayingAt(k);
            if (s == null || !hasBit(lit, s.where)) continue;
            int thawing = now.thawingByLantern(known, s);
            if (hasBit(told, k) && thawing < s.hanging()) return NONE;
            if (hasBit(others, k) && thawing > 0) return NONE;
        }
        return lit;
    }

    public int answers(int k, int l) {
        Saying answer = now.sayingAt(k);
        Saying asked = now.sayingAt(l);
        if (answer == null || asked == null || k == l) return BAD;
        for (int i = 0; i < asked.length; i++) {
            if (asked.hangs(i) || at(asked.heardIn, i) >= answer.hour) return 0;
        }
        return 1;
    }

    public int spoke(int k) {
        Saying s = now.sayingAt(k);
        if (s == null) return BAD;
        int pitch = at(known.pitch, s.who);
        int bits = 0;
        for (int p = 0; p < known.personCount; p++) {
            boolean alike = Math.abs(at(known.pitch, p) - pitch) <= 1;
            if (alike && hasBit(s.standers, p)) bits |= 1 << p;
        }
        return bits;
    }

    public long odds(int sound, int place, int d, int n, int what) {
        if (!known.isSound(sound) || !known.isPlace(place) || what < 0 || what > 1) return NO;
        if (d < 0 || d > MOST_UNSURE || n < 1 || n > MOST_HOURS_OF_ODDS) return NO;
        long all = 1;
        long frozen = 1;
        for (int i = 1; i <= n; i++) {
            all *= 2 * d + 1;
            frozen *= known.frozenCases(sound, place, d, now.hour + i);
        }
        long divisor = greatestDivisor(all, all - frozen);
        if (divisor < 1) return NO;
        return (what == 0 ? all - frozen : all) / divisor;
    }

    // ---- kinds, images

    public int rate(int kind, int k) {
        Saying s = now.sayingAt(k);
        if (s == null) return NO;
        switch (kind) {
            case 0: return rateAsSaying(s);
            case 1: return rateAsLow(s);
            case 2: return rateAsSung(s);
            case 3: return rateAsMixed(s);
            case 4: return rateAsChilds(s);
            case 5: return rateAsSworn(s);
            default: return NO;
        }
    }

    public int keep(int image) {
        Scene its = imageOf(image);
        if (its == null) return BAD;
        its.become(now);
        its.kept = true;
        return now.hour;
    }

    public int back(int image) {
        Scene its = imageOf(image);
        if (its == null) return BAD;
        if (!its.kept) return STATE;
        now.become(its);
        return now.hour;
    }

    public int count(int what) {
        switch (what) {
            case 0: return known.placeCount;
            case 1: return known.hourCount;
            case 2: return known.soundCount;
            case 3: return known.personCount;
            case 4: return text.length;
            default: return BAD;
        }
    }

    public long trace() {
        return trace;
    }

    private int rateAsSaying(Saying s) {
        trace += 1;
        return s.length;
    }

    private int rateAsLow(Saying s) {
        trace += 10;
        return rateAsSaying(s) - s.loud;
    }

    private int rateAsSung(Saying s) {
        trace += 100;
        return rateAsSaying(s) + s.hanging();
    }

    private int rateAsMixed(Saying s) {
        trace += 1000;
        return 2 * rateAsLow(s);
    }

    private int rateAsChilds(Saying s) {
        trace += 10000;
        return rateAsSung(s) + s.hour;
    }

    private int rateAsSworn(Saying s) {
        trace += 100000;
        return rateAsSaying(s) - s.where;
    }

    private Ear earOf(int p) {
        return known.isPerson(p) ? now.earAt(p) : null;
    }

    private Scene imageOf(int image) {
        switch (image) {
            case 0: return image0;
            case 1: return image1;
            default: return null;
        }
    }

    // Figures 1 .. 5 stand for the sounds 0 .. 4, so that a figure 0 is none.
    private boolean areSounds(int figures) {
        if (figures < 1 || figures > HIGHEST_FIGURES) return false;
        for (int rest = figures; rest > 0; rest /= 10) {
            if (!known.isSound(rest % 10 - 1)) return false;
        }
        return true;
    }

    private static boolean isHour(int hour) {
        return hour >= 0 && hour <= LAST_HOUR;
    }

    private static boolean hasBit(int bits, int i) {
        return (bits >> i & 1) != 0;
    }

    private static long greatestDivisor(long a, long b) {
        long high = a;
        long low = b;
        for (int step = 0; low != 0 && step < 100; step++) {
            long rest = high % low;
            high = low;
            low = rest;
        }
        return high;
    }

    // Rows are read and written through these two, so that no index can lie outside.
    private static int at(int[] row, int i) {
        return i >= 0 && i < row.length ? row[i] : 0;
    }

    private static void put(int[] row, int i, int value) {
        if (i >= 0 && i < row.length) row[i] = value;
    }

    private static void copy(int[] from, int[] to) {
        for (int i = 0; i < from.length && i < to.length; i++) to[i] = from[i];
    }

    // The text, and a reader that goes over it token by token.
    private static final class Text {
        private static final int OVER = 0, WORD = 1, NUMBER = 2, MARK = 3, BROKEN = 4;
        private static final int NO_NUMBER = -1;

        private final int[] bytes = new int[MOST_BYTES];
        int length = 0;

        // The token that was read last: where it starts, where it ends, what it is.
        private int start = 0;
        private int end = 0;
        private int token = OVER;
        private int value = 0;

        void add(int one) {
            put(bytes, length, one);
            length++;
        }

        // How many items; or -10 less the fault, and the cape is of no use then.
        int readInto(Cape draft) {
            draft.begin();
            end = 0;
            int items = 0;
            // No item is without a byte, so there are not more items than bytes.
            for (nextToken(); token != OVER && items < length; nextToken()) {
                if (!readItem(draft)) return FAULT_AT_0 - start;
                items++;
            }
            return items;
        }

        // Each of these stops with the token that can't stand there as the last one read.
        private boolean readItem(Cape draft) {
            if (token != WORD) return false;
            if (isWord("place")) return readPlace(draft);
            if (isWord("frost")) return readWeather(draft, -1);
            if (isWord("warm")) return readWeather(draft, 1);
            if (isWord("cold")) return readSound(draft, -1);
            if (isWord("sound")) return readSound(draft, 1);
            if (isWord("person")) return readPerson(draft);
            return false;
        }

        private boolean readPlace(Cape draft) {
            if (draft.placeCount >= MOST_PLACES || !readNumber(0, COLDEST_PLACE)) return false;
            draft.addPlace(value);
            return readMark();
        }

        private boolean readWeather(Cape draft, int sign) {
            if (!readNumber(0, HIGHEST_WARMTH)) return false;
            int warmth = sign * value;
            if (!readNumber(1, MOST_HOURS - draft.hourCount)) return false;
            draft.addHours(value, warmth);
            return readMark();
        }

        private boolean readSound(Cape draft, int sign) {
            if (draft.soundCount >= MOST_SOUNDS || !readNumber(0, HIGHEST_MELT)) return false;
            draft.addSound(sign * value);
            return readMark();
        }

        private boolean readPerson(Cape draft) {
            if (draft.personCount >= MOST_PEOPLE || !readNumber(0, HIGHEST_PITCH)) return false;
            int pitch = value;
            if (!readNumber(0, draft.placeCount - 1)) return false;
            draft.addPerson(pitch, value);
            return readMark();
        }

        private boolean readNumber(int lowest, int highest) {
            nextToken();
            value = token == NUMBER ? shortNumber() : NO_NUMBER;
            return value >= lowest && value <= highest;
        }

        private boolean readMark() {
            nextToken();
            return token == MARK;
        }

        private void nextToken() {
            start = endOfRow(end, ' ', ' ');
            end = endOfRow(start, 'a', 'z');
            token = WORD;
            if (end > start) return;
            end = endOfRow(start, '0', '9');
            token = NUMBER;
            if (end > start) return;
            token = start >= length ? OVER : at(bytes, start) == ';' ? MARK : BROKEN;
            end = start + 1;
        }

        // Two figures at most, and no 0 ahead of others; NO_NUMBER lies below all that may be.
        private int shortNumber() {
            int first = at(bytes, start) - '0';
            if (end - start == 1) return first;
            if (end - start > 2 || first == 0) return NO_NUMBER;
            return 10 * first + at(bytes, start + 1) - '0';
        }

        private int endOfRow(int from, int lowest, int highest) {
            for (int i = Math.max(from, 0); i < length && i < bytes.length; i++) {
                if (bytes[i] < lowest || bytes[i] > highest) return i;
            }
            return length;
        }

        private boolean isWord(String word) {
            if (end - start != word.length()) return false;
            for (int i = 0; i < word.length(); i++) {
                if (at(bytes, start + i) != word.charAt(i)) return false;
            }
            return true;
        }
    }

    // What a text told: it stays as it is until another text is read.
    private static final class Cape {
        final int[] colder = new int[MOST_PLACES];
        private final int[] weather = new int[MOST_HOURS];
        final int[] melt = new int[MOST_SOUNDS];
        final int[] pitch = new int[MOST_PEOPLE];
        final int[] home = new int[MOST_PEOPLE];
        int placeCount = 0;
        int hourCount = 0;
        int soundCount = 0;
        int personCount = 0;

        void begin() {
            placeCount = 0;
            hourCount = 0;
            soundCount = 0;
            personCount = 0;
        }

        void become(Cape other) {
            copy(other.colder, colder);
            copy(other.weather, weather);
            copy(other.melt, melt);
            copy(other.pitch, pitch);
            copy(other.home, home);
            placeCount = other.placeCount;
            hourCount = other.hourCount;
            soundCount = other.soundCount;
            personCount = other.personCount;
        }

        void addPlace(int howMuchColder) {
            put(colder, placeCount, howMuchColder);
            placeCount++;
        }

        void addHours(int n, int warmth) {
            for (int i = 0; i < n; i++) {
                put(weather, hourCount, warmth);
                hourCount++;
            }
        }

        void addSound(int meltsAt) {
            put(melt, soundCount, meltsAt);
            soundCount++;
        }

        void addPerson(int pitchOfOne, int place) {
            put(pitch, personCount, pitchOfOne);
            put(home, personCount, place);
            personCount++;
        }

        boolean isPlace(int p) {
            return p >= 0 && p < placeCount;
        }

        boolean isSound(int sound) {
            return sound >= 0 && sound < soundCount;
        }

        boolean isPerson(int p) {
            return p >= 0 && p < personCount;
        }

        int warmthIn(int hour) {
            return hourCount == 0 ? 0 : at(weather, Math.min(hour, hourCount - 1));
        }

        // Without a lantern.
        int airIn(int place, int hour) {
            return warmthIn(hour) - at(colder, place);
        }

        // In how many of the 2d + 1 weathers of an hour the sound would not be heard.
        int frozenCases(int sound, int place, int d, int hour) {
            int missing = at(melt, sound) - airIn(place, hour);
            int many = 0;
            for (int more = -d; more <= d; more++) {
                if (more < missing) many++;
            }
            return many;
        }
    }

    // What one says: its sounds, and in which hour each of them was heard.
    private static final class Saying {
        private static final int NOT_YET = -1;

        final int[] sounds = new int[MOST_SOUNDS_SAID];
        final int[] heardIn = new int[MOST_SOUNDS_SAID];
        int length = 0;
        int who = 0;
        int where = 0;
        int hour = 0;
        int loud = 0;
        // Those who stood there as it was said (bits): later they may have gone elsewhere.
        int standers = 0;

        void become(Saying other) {
            copy(other.sounds, sounds);
            copy(other.heardIn, heardIn);
            length = other.length;
            who = other.who;
            where = other.where;
            hour = other.hour;
            loud = other.loud;
            standers = other.standers;
        }

        void setSounds(int figures) {
            length = 0;
            for (int unit = 1000; unit > 0; unit /= 10) {
                if (figures < unit) continue;
                put(sounds, length, figures / unit % 10 - 1);
                put(heardIn, length, NOT_YET);
                length++;
            }
        }

        boolean hangs(int i) {
            return at(heardIn, i) == NOT_YET;
        }

        int hanging() {
            int many = 0;
            for (int i = 0; i < length; i++) {
                if (hangs(i)) many++;
            }
            return many;
        }
    }

    // What one heard, in its order.
    private static final class Ear {
        final int[] sayings = new int[MOST_HEARD];
        final int[] sounds = new int[MOST_HEARD];
        int count = 0;

        void become(Ear other) {
            copy(other.sayings, sayings);
            copy(other.sounds, sounds);
            count = other.count;
        }

        void add(int saying, int sound) {
            if (count >= MOST_HEARD) return;
            put(sayings, count, saying);
            put(sounds, count, sound);
            count++;
        }

        boolean holds(Saying s) {
            int found = 0;
            for (int i = 0; i < count && found < s.length; i++) {
                if (at(sounds, i) == at(s.sounds, found)) found++;
            }
            return found == s.length;
        }
    }

    // All that an image keeps: the hour, the sayings, who stands where and heard what, lanterns.
    private static final class Scene {
        private static final int NOWHERE = -1;

        private final Saying[] sayings = new Saying[MOST_SAYINGS];
        private final Ear[] ears = new Ear[MOST_PEOPLE];
        final int[] stands = new int[MOST_PEOPLE];
        int sayingCount = 0;
        int hour = 0;
        int lanterns = 0;
        boolean kept = false;

        Scene() {
            for (int k = 0; k < sayings.length; k++) sayings[k] = new Saying();
            for (int p = 0; p < ears.length; p++) ears[p] = new Ear();
            for (int p = 0; p < stands.length; p++) stands[p] = NOWHERE;
        }

        void begin(Cape cape) {
            hour = 0;
            lanterns = 0;
            sayingCount = 0;
            for (int p = 0; p < ears.length; p++) {
                put(stands, p, cape.isPerson(p) ? at(cape.home, p) : NOWHERE);
                Ear ear = ears[p];
                if (ear != null) ear.count = 0;
            }
        }

        void become(Scene other) {
            hour = other.hour;
            lanterns = other.lanterns;
            sayingCount = other.sayingCount;
            copy(other.stands, stands);
            for (int k = 0; k < sayings.length; k++) {
                Saying mine = sayings[k];
                Saying its = other.sayingAt(k);
                if (mine != null && its != null) mine.become(its);
            }
            for (int p = 0; p < ears.length; p++) {
                Ear mine = ears[p];
                Ear its = other.earAt(p);
                if (mine != null && its != null) mine.become(its);
            }
        }

        Saying sayingAt(int k) {
            return k >= 0 && k < sayingCount && k < sayings.length ? sayings[k] : null;
        }

        Ear earAt(int p) {
            return p >= 0 && p < ears.length ? ears[p] : null;
        }

        boolean isLit(int place) {
            return hasBit(lanterns, place);
        }

        // Only NOW has lanterns: they go out as the hour goes by.
        int airIn(Cape cape, int place, int inHour) {
            int air = cape.airIn(place, inHour);
            return inHour == hour && isLit(place) ? air + LANTERN_WARMTH : air;
        }

        int hangingAt(int place) {
            int many = 0;
            for (int k = 0; k < sayingCount; k++) {
                Saying s = sayingAt(k);
                if (s != null && s.where == place) many += s.hanging();
            }
            return many;
        }

        int hanging() {
            int many = 0;
            for (int place = 0; place < MOST_PLACES; place++) many += hangingAt(place);
            return many;
        }

        int say(Cape cape, int p, int loud, int figures) {
            int k = sayingCount;
            sayingCount++;
            Saying s = sayingAt(k);
            if (s == null) return FULL;
            s.who = p;
            s.where = at(stands, p);
            s.hour = hour;
            s.loud = loud;
            s.standers = standersAt(s.where);
            s.setSounds(figures);
            // None of it hung before: what the air bears is heard at once, in its order.
            thawSaying(cape, k, s, airIn(cape, s.where, hour));
            return k;
        }

        private int standersAt(int place) {
            int bits = 0;
            for (int p = 0; p < stands.length; p++) {
                if (stands[p] == place) bits |= 1 << p;
            }
            return bits;
        }

        int light(Cape cape, int place) {
            lanterns |= 1 << place;
            return thawAt(cape, place);
        }

        int passHour(Cape cape) {
            lanterns = 0;
            hour++;
            int melted = 0;
            for (int place = 0; place < cape.placeCount; place++) melted += thawAt(cape, place);
            return melted;
        }

        private int thawAt(Cape cape, int place) {
            int air = airIn(cape, place, hour);
            int melted = 0;
            for (int loud = LOUDEST; loud >= 1; loud--) {
                for (int k = 0; k < sayingCount; k++) {
                    Saying s = sayingAt(k);
                    if (s == null || s.where != place || s.loud != loud) continue;
                    melted += thawSaying(cape, k, s, air);
                }
            }
            return melted;
        }

        private int thawSaying(Cape cape, int k, Saying s, int air) {
            int melted = 0;
            for (int i = 0; i < s.length; i++) {
                int sound = at(s.sounds, i);
                if (!s.hangs(i) || at(cape.melt, sound) > air) continue;
                put(s.heardIn, i, hour);
                hearAt(s.where, k, sound);
                melted++;
            }
            return melted;
        }

        private void hearAt(int place, int k, int sound) {
            for (int p = 0; p < stands.length; p++) {
                Ear ear = earAt(p);
                if (ear != null && stands[p] == place) ear.add(k, sound);
            }
        }

        int hourOfHearing(Cape cape, Saying s, int i) {
            if (!s.hangs(i)) return at(s.heardIn, i);
            for (int h = hour + 1; h <= LAST_HOUR; h++) {
                if (isThawing(cape, at(s.sounds, i), s.where, h)) return h;
            }
            return NONE;
        }

        boolean isThawing(Cape cape, int sound, int place, int inHour) {
            return at(cape.melt, sound) <= airIn(cape, place, inHour);
        }

        int placesOfHanging(int told) {
            int bits = 0;
            for (int k = 0; k < sayingCount; k++) {
                Saying s = sayingAt(k);
                if (s != null && hasBit(told, k) && s.hanging() > 0) bits |= 1 << s.where;
            }
            return bits;
        }

        // How many of its sounds would be heard by a lantern where none is held yet.
        int thawingByLantern(Cape cape, Saying s) {
            int air = airIn(cape, s.where, hour) + LANTERN_WARMTH;
            int many = 0;
            for (int i = 0; i < s.length; i++) {
                if (s.hangs(i) && at(cape.melt, at(s.sounds, i)) <= air) many++;
            }
            return many;
        }
    }
}
