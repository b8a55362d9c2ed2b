// What the project's tests share: answers compared with those due, and texts typed in.
final class Check {
    private int wrong = 0;
    private int asked = 0;

    void due(String call, long got, long want) {
        asked++;
        if (got == want) return;
        wrong++;
        System.out.println(call + " answered " + got + ", due is " + want);
    }

    int asked() {
        return asked;
    }

    // Prints what came of it, and ends the program with 1 if an answer was wrong.
    void end() {
        System.out.println(asked + " answers asked, " + wrong + " wrong");
        if (wrong != 0) System.exit(1);
    }

    // Types a text in byte by byte, so that a test can be read.
    static void type(ThawWords x, String text) {
        for (int i = 0; i < text.length(); i++) x.type(text.charAt(i), 1);
    }

    // Types in as many bytes a call as there are, up to eight.
    static int typeByEights(ThawWords x, String text) {
        int calls = 0;
        for (int from = 0; from < text.length(); from += 8) {
            int to = Math.min(from + 8, text.length());
            long v = 0;
            for (int i = from; i < to; i++) v = v << 8 | text.charAt(i);
            x.type(v, to - from);
            calls++;
        }
        return calls;
    }

    static ThawWords capeOf(String text) {
        ThawWords x = new ThawWords();
        typeByEights(x, text);
        int items = x.cape();
        if (items < 0) throw new IllegalArgumentException("the text has a fault: " + items);
        return x;
    }
}
