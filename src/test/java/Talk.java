/** What tests do with the program again and again: WORKS out of texts, and whole rows of its answers as texts. */
final class Talk {
    private final Due due;

    Talk(Due due) {
        this.due = due;
    }

    void is(String call, long got, long want) {
        due.is(call, got, want);
    }

    void is(String what, String got, String want) {
        due.is(what, got, want);
    }

    /** A new object whose WORKS, from 0 on, are what these texts tell. */
    LaceWorks of(String... texts) {
        LaceWorks x = new LaceWorks();
        for (int i = 0; i < texts.length; i++) {
            put(x, i, texts[i]);
        }
        return x;
    }

    int put(LaceWorks x, int work, String text) {
        pad(x, text);
        int steps = x.work(work);
        if (steps < 0) {
            due.fail("no WORK: " + text + " answered " + steps);
        }
        return steps;
    }

    /** THE PAD has these signs and no others. */
    void pad(LaceWorks x, String text) {
        x.wipe();
        sayAll(x, text);
    }

    void sayAll(LaceWorks x, String text) {
        for (char c : text.toCharArray()) {
            x.say(c);
        }
    }

    String script(LaceWorks x, int work) {
        StringBuilder s = new StringBuilder();
        int signs = x.written(work, -1);
        for (int k = 0; k < signs; k++) {
            s.append((char) x.written(work, k));
        }
        return s.toString();
    }

    String lying(LaceWorks x, int work, int i) {
        StringBuilder s = new StringBuilder();
        for (int place = 0; place < 8; place++) {
            s.append(x.at(work, i, place));
        }
        return s.toString();
    }

    String letters(LaceWorks x, int work) {
        StringBuilder s = new StringBuilder();
        int size = x.letter(work, -1);
        for (int i = 0; i < size; i++) {
            s.append(i == 0 ? "" : " ").append(x.letter(work, i));
        }
        return s.toString();
    }

    String shortForm(LaceWorks x, int work) {
        StringBuilder s = new StringBuilder();
        int size = x.shortest(work, -1);
        for (int i = 0; i < size; i++) {
            s.append(i == 0 ? "" : " ").append(x.shortest(work, i));
        }
        return s.toString();
    }
}
