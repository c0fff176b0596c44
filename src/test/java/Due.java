/** What the boundary tests share: the sentence under test, what is due, and all that an object shows. */
final class Due {
    /** Makes the same object anew each time, since no object is used for more than 512 calls. */
    interface Setup {
        SessionTables fresh();
    }

    interface Call {
        int on(SessionTables x);
    }

    private static String sentence = "";
    private static int sentences = 0;
    private static int wrong = 0;

    private Due() {
    }

    /** Names the sentence of the document that the calls from here on are about. */
    static void sentence(String words) {
        sentence = words;
        sentences++;
    }

    static void is(String call, int got, int want) {
        if (got != want) {
            say(call, Integer.toString(got), Integer.toString(want));
        }
    }

    static void is(String call, boolean got, boolean want) {
        if (got != want) {
            say(call, Boolean.toString(got), Boolean.toString(want));
        }
    }

    static void is(String call, String got, String want) {
        if (!got.equals(want)) {
            say(call, got, want);
        }
    }

    private static void say(String call, String got, String want) {
        wrong++;
        System.out.println("\"" + sentence + "\": " + call + " answered " + got + ", due is " + want);
    }

    static void end() {
        System.out.println(wrong == 0 ? sentences + " sentences hold" : wrong + " answers are not as due");
        if (wrong != 0) {
            System.exit(1);
        }
    }

    /** The words of a sector but for its check; those that are not told are due as 0. */
    static void sector(SessionTables x, int place, int sort, int number, int... rest) {
        int[] words = new int[16];
        words[0] = sort;
        words[2] = place;
        words[3] = number;
        System.arraycopy(rest, 0, words, 4, rest.length);
        for (int i = 0; i < 16; i++) {
            if (i != 1) {
                is("word(" + place + ", " + i + ")", x.word(place, i), words[i]);
            }
        }
    }

    static void unwritten(SessionTables x, int place) {
        for (int i = 0; i < 16; i++) {
            is("word(" + place + ", " + i + ") of an unwritten sector", x.word(place, i), 0);
        }
    }

    /** Works the check of the words that are there out anew. */
    static int check(SessionTables x, int place) {
        int c = 65535;
        for (int i = 0; i < 16; i++) {
            int word = i == 1 ? 0 : x.word(place, i);
            for (int shift = 24; shift >= 0 && i != 1; shift -= 8) {
                c ^= 256 * ((word >>> shift) & 255);
                for (int bit = 0; bit < 8; bit++) {
                    c = c < 32768 ? 2 * c : (2 * c - 65536) ^ 4129;
                }
            }
        }
        return c;
    }

    /** That a call is refused with the answer, and that no later call could tell that it was made. */
    static void refused(String name, Setup setup, Call call, int answer) {
        SessionTables without = setup.fresh();
        SessionTables with = setup.fresh();
        is(name, call.on(with), answer);
        is("all that is seen after " + name, seen(with), seen(without));
    }

    /** Everything that the looks show, and then how a run of changes goes, which shows an armed stop. */
    static String seen(SessionTables x) {
        StringBuilder s = new StringBuilder();
        int tables = x.tables();
        s.append("left ").append(x.left()).append(" changed ").append(x.changed()).append(" tables ").append(tables);
        for (int at = 0; at <= tables; at++) {
            s.append("\n at ").append(at).append(':');
            for (int node = 0; node < 8; node++) {
                seenNode(s, x, at, node);
            }
        }
        s.append("\n words");
        for (int place = 0; place < 128 && x.word(place, 0) > 0; place++) {
            for (int i = 0; i < 16; i++) {
                s.append(' ').append(x.word(place, i));
            }
        }
        return s.append("\n later ").append(later(x)).toString();
    }

    private static void seenNode(StringBuilder s, SessionTables x, int at, int node) {
        int kind = x.kind(at, node);
        if (kind < 0) {
            return;
        }
        int items = x.items(at, node);
        s.append(" [").append(node).append(" kind ").append(kind);
        for (int i = 0; i < items; i++) {
            s.append(' ').append(kind == 1 ? x.item(at, node, i) : x.block(at, node, i));
        }
        s.append(']');
    }

    private static String later(SessionTables x) {
        StringBuilder s = new StringBuilder();
        for (int i = 0; i < 3; i++) {
            s.append(x.write(3, 0, i)).append(' ');
        }
        s.append(x.remove(0, 3)).append(' ').append(x.make(0, 90, true)).append(' ');
        s.append(x.close()).append(' ').append(x.left()).append(' ').append(x.changed()).append(' ');
        return s.append(x.crash()).toString();
    }

    /** A medium of 16 sectors, closed with the file 1 (name 1) in the root, so many sectors unwritten. */
    static SessionTables fileWithLeft(int left) {
        SessionTables x = new SessionTables(16);
        x.make(0, 1, false);
        for (int i = 0; i < 13 - left; i++) {
            x.write(1, 0, i);
        }
        x.close();
        is("left() of the filled medium", x.left(), left);
        return x;
    }

    /** The same with the directory 1 (name 1) and the file 2 (name 2) in the root. */
    static SessionTables twoWithLeft(int left) {
        SessionTables x = new SessionTables(16);
        x.make(0, 1, true);
        x.make(0, 2, false);
        for (int i = 0; i < 12 - left; i++) {
            x.write(2, 0, i);
        }
        x.close();
        is("left() of the filled medium", x.left(), left);
        return x;
    }
}
