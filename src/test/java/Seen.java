// All that an object lets be seen, as one text: NOW, the cape, both images and the text. It goes
// back to the images and reads the text, so the object is used up by it.
final class Seen {
    // What a test did ahead of it is to have room below the 512 calls of an object.
    private static final int MOST_CALLS = 450;

    private final ThawWords x;
    private final StringBuilder seen = new StringBuilder();
    private int calls = 0;

    private Seen(ThawWords x) {
        this.x = x;
    }

    static String all(ThawWords x) {
        Seen s = new Seen(x);
        s.cape();
        s.scene();
        for (int image = 0; image < 2; image++) {
            if (s.add("back to an image", x.back(image)) >= 0) s.scene();
        }
        s.add("reads the text", x.cape());
        s.cape();
        if (s.calls > MOST_CALLS) throw new IllegalStateException(s.calls + " calls");
        return s.seen.toString();
    }

    private long add(String what, long answer) {
        seen.append(what).append(' ').append(answer).append("; ");
        calls++;
        return answer;
    }

    private void cape() {
        add("bytes", x.count(4));
        long places = add("places", x.count(0));
        for (int p = 0; p < places; p++) add("colder", x.place(p, 0));
        long hours = add("hours", x.count(1));
        for (int hour = 0; hour < hours; hour++) add("warmth", x.warmth(hour));
        long sounds = add("sounds", x.count(2));
        for (int sound = 0; sound < sounds; sound++) add("melts", x.melts(sound));
        long people = add("people", x.count(3));
        for (int p = 0; p < people; p++) add("pitch", x.person(p, 0));
        add("trace", x.trace());
    }

    private void scene() {
        add("hour", x.now(0));
        add("hanging", x.now(1));
        add("lanterns", x.now(3));
        long people = add("people", x.count(3));
        for (int p = 0; p < people; p++) {
            add("stands", x.person(p, 1));
            long heard = add("heard", x.person(p, 2));
            for (int i = 0; i < heard; i++) {
                add("saying", x.heard(p, i, 0));
                add("sound", x.heard(p, i, 1));
            }
        }
        long sayings = add("sayings", x.now(2));
        for (int k = 0; k < sayings; k++) {
            for (int what = 0; what < 6; what++) add("of it", x.saying(k, what));
            for (int i = 0; i < 4; i++) {
                add("sound", x.soundOf(k, i));
                add("when", x.when(k, i));
            }
            add("spoke", x.spoke(k));
        }
    }
}
