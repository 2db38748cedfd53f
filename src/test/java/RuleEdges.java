import java.util.regex.Matcher;
import java.util.regex.Pattern;

/** Terms, section 1, rules; promises 5, 6 and 8. */
final class RuleEdges {
    private static final int BAD = TurnPort.BAD;
    private static final long NO_RANK = -1099511627777L;

    private RuleEdges() {
    }

    static void run() {
        howManyTerms();
        signs();
        numbers();
        letters();
        sums();
        greatestRanks();
        rulesAtFirst();
        placesOfFaults();
        blanks();
        wrongNumbers();
        seventhTerm();
        allShortTexts();
        newRanks();
        typeHowMany();
        typeBytes();
        typeFull();
        rule();
        rank();
    }

    /** What rule answers to a text; a new object each time. */
    private static int of(String text) {
        TurnPort x = new TurnPort();
        Due.is("typed '" + text + "'", Tapes.type(x, text), text.length());
        return x.rule(0);
    }

    private static void howManyTerms() {
        Said.says("A RULE is a TEXT: 1 to 6 TERMS:");
        Due.is("no term", of(""), -20);
        String text = "c";
        for (int terms = 1; terms <= 6; terms++) {
            Due.is(text, of(text), terms);
            text += "+c";
        }
        Due.is("seven terms", of(text), -31);
    }

    private static void signs() {
        Said.says("+ or - (the first one perhaps without),");
        Object[][] texts = {{"c", 1}, {"+c", 1}, {"-c", 1}, {"c+l", 2}, {"c-l", 2}, {"+c-l", 2}, {"cl", -21}, {"+cl", -22},
            {"c+lt", -23}, {"++c", -21}, {"--c", -21}, {"c+-l", -22}, {"c*l", -21}, {"*c", -20}};
        for (Object[] t : texts) {
            Due.is((String) t[0], of((String) t[0]), (Integer) t[1]);
        }
    }

    private static void numbers() {
        Said.says("perhaps a number 1 .. 99,");
        for (int n = 1; n <= 99; n++) {
            Due.is(n + "c", of(n + "c"), 1);
        }
        int[] wrong = {0, 100, 101, 999, 1000, 2147483647};
        for (int n : wrong) {
            Due.is(n + "c", of(n + "c"), -20);
            Due.is("c-" + n + "l", of("c-" + n + "l"), -22);
        }
        Due.is("2^32 + 1", of("4294967297c"), -20);
        Due.is("2^64 + 1", of("18446744073709551617c"), -20);
        Due.is("a number alone", of("99"), -22);
        Due.is("a number below 0 is a sign and a number", of("-1c"), 1);
    }

    /** Each byte that a tape can hold: alone, behind a sign, behind a number, behind a term. */
    private static void letters() {
        Said.says("and one of c l t d n f.");
        for (char b = 32; b <= 126; b++) {
            boolean letter = "cltdnf".indexOf(b) >= 0;
            boolean sign = b == '+' || b == '-';
            boolean digit = b >= '1' && b <= '9';
            boolean blank = b == ' ';
            Due.is("'" + b + "'", of("" + b), letter ? 1 : sign || digit || blank ? -21 : -20);
            Due.is("'-" + b + "'", of("-" + b), letter ? 1 : digit || blank ? -22 : -21);
            Due.is("'7" + b + "'", of("7" + b), letter ? 1 : digit || b == '0' || blank ? -22 : -21);
            Due.is("'c" + b + "'", of("c" + b), blank ? 1 : sign ? -22 : -21);
        }
    }

    /** Word 1: c 7, l 30, t 2, d 52, n 1, f 124. */
    private static TurnPort withWords() {
        TurnPort x = new TurnPort();
        x.set(3, 0, 7);
        x.set(3, 1, 4);
        x.set(3, 2, 50);
        x.come(3, 1);
        x.ticks(2);
        x.come(3, 30);
        return x;
    }

    private static void sums() {
        Said.says("RANK is their sum (1 each without a number; longs).");
        TurnPort x = withWords();
        Object[][] texts = {{"c", 7}, {"l", 30}, {"t", 2}, {"d", 52}, {"n", 1}, {"f", 124}, {"1d", 52}, {"2d", 104},
            {"-d", -52}, {"99d", 5148}, {"-99d", -5148}, {"c+l", 37}, {"c-l", -23}, {"-c+l", 23}, {"c-c", 0},
            {"d+2d+3d+4d+5d+6d", 1092}, {"d-2d+3d-4d+5d-6d", -156}, {"f-d-l-t-c-n", 32}};
        for (Object[] t : texts) {
            Due.holds("a rule: " + t[0], Tapes.rule(x, 0, (String) t[0]) > 0);
            Due.is((String) t[0], x.rank(1, 0), (Integer) t[1]);
        }
    }

    /** 1000 words of length 99 and share 1: no END can be greater. */
    private static void greatestRanks() {
        TurnPort x = new TurnPort();
        int[] row = new int[24];
        for (int i = 1; i < 24; i += 2) {
            row[i] = 99;
        }
        Rows.put(x, 0, 0, row);
        for (int i = 0; i < 83; i++) {
            x.comes(0, 0, 0, 12);
        }
        x.comes(0, 0, 0, 4);
        Due.is("the greatest END", x.told(999, 4), 1584000);
        Tapes.rule(x, 0, "99f+99f+99f+99f+99f+99f");
        Due.is("the greatest rank", x.rank(999, 0), 940896000L);
        Tapes.rule(x, 1, "-99f-99f-99f-99f-99f-99f");
        Due.is("the least rank", x.rank(999, 1), -940896000L);
    }

    private static void rulesAtFirst() {
        Said.says("THE RULE (at first t) makes RANKS of WORDS in their HOUSE, THE ROOT's RULE (at first t) RANKS "
            + "of their MARKS at THE ROOT.");
        TurnPort x = withWords();
        Due.is("t at first", x.rank(1, 0), 2);
        Due.is("t at first, at the root", x.rank(1, 1), 2);
        Due.is("the rule", Tapes.rule(x, 0, "l"), 1);
        Due.is("is of words", x.rank(1, 0), 30);
        Due.is("not of marks", x.rank(1, 1), 2);
        Due.is("the root's rule", Tapes.rule(x, 1, "c"), 1);
        Due.is("is of marks", x.rank(1, 1), 7);
        Due.is("not of words", x.rank(1, 0), 30);
    }

    private static String blanksOf(int n) {
        return " ".repeat(n);
    }

    private static void placesOfFaults() {
        Said.says("FAULTS: -20 less the place of the first byte (behind blanks) that can't stand there "
            + "(the end: how many bytes there are);");
        for (int place = 0; place < 40; place++) {
            Due.is("x at place " + place, of(blanksOf(place) + "x"), -20 - place);
            Due.is("nothing but " + place + " blanks", of(blanksOf(place)), -20 - place);
        }
        Due.is("a full tape of blanks", of(blanksOf(40)), -60);
        for (int place = 1; place < 40; place++) {
            Due.is("a sign, and the end at " + place, of("-" + blanksOf(place - 1)), -20 - place);
            Due.is("a term, and x at " + place, of("c" + blanksOf(place - 1) + "x"), -20 - place);
        }
        Due.is("the first of two that can't", of("c+x+y"), -22);
        Due.is("the last byte of a full tape", of("c" + blanksOf(38) + "+"), -60);
    }

    private static void blanks() {
        Said.says("bytes 32 count for nothing, but do not stand in a number;");
        Object[][] texts = {{" c", 1}, {"c ", 1}, {"- c", 1}, {"5 c", 1}, {"-  12  c  +  3  l  ", 2}, {"1 2c", -22},
            {"12c", 1}, {"c+9 9l", -24}, {"c+99l", 2}, {"1 0 0c", -22}, {"5 +c", -22}, {"0 5c", -20}};
        for (Object[] t : texts) {
            Due.is((String) t[0], of((String) t[0]), (Integer) t[1]);
        }
        TurnPort x = withWords();
        Tapes.rule(x, 0, " - 3 d + 1 0 l");
        Due.is("a fault keeps the rule", x.rank(1, 0), 2);
        Tapes.rule(x, 0, " - 3 d + 10 l ");
        Due.is("blanks count for nothing", x.rank(1, 0), 144);
        Due.is("the longest rule", of("+99c+99l+99t+99d+99n+99f" + blanksOf(16)), 6);
    }

    private static void wrongNumbers() {
        Said.says("of a number that is not as it may be its first byte;");
        Object[][] texts = {{"0c", -20}, {"100c", -20}, {"  100c", -22}, {"+0c", -21}, {"+ 0c", -22}, {"c+100l", -22},
            {"c-  1000l", -24}, {"0", -20}, {"100", -20}, {"00c", -20}, {"0x", -20}, {"100x", -20}, {"0 ", -20}};
        for (Object[] t : texts) {
            Due.is((String) t[0], of((String) t[0]), (Integer) t[1]);
        }
        Due.is("forty digits", of("9".repeat(40)), -20);
        Due.is("39 digits behind a sign", of("-" + "1".repeat(39)), -21);
    }

    private static void seventhTerm() {
        Said.says("a seventh TERM's sign can't.");
        Due.is("six", of("c+l-t+d-n+f"), 6);
        Due.is("a plus behind six", of("c+l-t+d-n+f+"), -31);
        Due.is("a minus behind six", of("c+l-t+d-n+f-c"), -31);
        Due.is("its place is the sign's", of("c+l-t+d-n+f  - c"), -33);
        Due.is("blanks behind six", of("c+l-t+d-n+f  "), 6);
        Due.is("another byte behind six", of("c+l-t+d-n+fx"), -31);
        Due.is("six, the first with a sign", of("-c+l-t+d-n+f"), 6);
        Due.is("seven, the first with a sign", of("-c+l-t+d-n+f+c"), -32);
    }

    private static final Pattern RULE = Pattern.compile(
        " *([+-] *)?(0*[1-9][0-9]? *)?[cltdnf] *([+-] *(0*[1-9][0-9]? *)?[cltdnf] *){0,5}");

    /** Where the longest beginning ends that some rule has too; of a number the first byte. */
    private static int dueFor(String text) {
        int good = 0;
        while (good < text.length() && begins(text.substring(0, good + 1))) {
            good++;
        }
        if (good == text.length() && RULE.matcher(text).matches()) {
            return text.replaceAll("[^cltdnf]", "").length();
        }
        int digits = good;
        while (digits > 0 && Character.isDigit(text.charAt(digits - 1))) {
            digits--;
        }
        boolean zeros = digits < good && text.substring(digits, good).matches("0+");
        boolean tooLong = digits < good && good < text.length() && Character.isDigit(text.charAt(good));
        return -20 - (zeros || tooLong ? digits : good);
    }

    private static boolean begins(String text) {
        Matcher m = RULE.matcher(text);
        return m.matches() || m.hitEnd();
    }

    private static void allShortTexts() {
        String signs = "+-019cf x";
        for (int length = 0; length <= 5; length++) {
            int all = 1;
            for (int i = 0; i < length; i++) {
                all *= signs.length();
            }
            for (int number = 0; number < all; number++) {
                StringBuilder text = new StringBuilder();
                for (int i = 0, rest = number; i < length; i++, rest /= signs.length()) {
                    text.append(signs.charAt(rest % signs.length()));
                }
                Due.is("'" + text + "'", of(text.toString()), dueFor(text.toString()));
            }
        }
    }

    private static void newRanks() {
        Said.says("A new RULE makes new RANKS of all that wait, by what they came with.");
        TurnPort x = new TurnPort();
        x.set(0, 0, 5);
        x.come(0, 9);
        x.set(0, 0, 1);
        x.come(0, 5);
        x.set(0, 0, 3);
        x.come(0, 7);
        x.set(0, 0, 9);
        String[] rules = {"l", "-l", "c", "-c", "n", "-n"};
        int[] due = {1, 0, 1, 0, 0, 2};
        for (int i = 0; i < rules.length; i++) {
            Tapes.rule(x, 0, rules[i]);
            Due.is("next by " + rules[i], x.next(), due[i]);
        }
        Tapes.rule(x, 0, "c");
        x.ticks(5);
        Due.is("the least by c went", x.sent(0), 1);
        Due.is("then the one of class 3", x.next(), 2);
        x.full(0, 2);
        x.full(1, 1);
        x.come(1, 1);
        Due.is("the greatest by c is dropped", x.told(0, 0), 3);
        newRanksOfMarks();
    }

    private static void newRanksOfMarks() {
        TurnPort x = new TurnPort();
        x.set(1, 4, 1);
        x.come(7, 9);
        x.ticks(1);
        x.come(0, 3);
        x.ticks(1);
        x.come(1, 2);
        Due.is("the mark of tick 1", x.next(), 1);
        String[] rules = {"-t", "t", "l", "-l"};
        int[] due = {2, 1, 2, 1};
        for (int i = 0; i < rules.length; i++) {
            Tapes.rule(x, 1, rules[i]);
            Due.is("next by the root's " + rules[i], x.next(), due[i]);
        }
    }

    private static void typeHowMany() {
        Said.says("`int type(long w, int n)`: The n lowest bytes (1 .. 8) of w, of these the highest first, "
            + "come behind THE TAPE: how many it has.");
        Span.bounds("type, n", 1, 8, BAD, n -> new TurnPort().type(0x6363636363636363L, n));
        TurnPort x = new TurnPort();
        int has = 0;
        for (int n = 1; n <= 8; n++) {
            has += n;
            Due.is("type " + n, x.type(0x2020202020202020L, n), has);
        }
        TurnPort y = withWords();
        y.type(0xff002d39396c2b63L, 6);
        Due.is("the highest first: -99l+c", y.rule(0), 2);
        Due.is("its rank", y.rank(1, 0), -2963);
        y.type(0x6c2b6c2b6c2b6c2bL, 8);
        y.type(0x63, 1);
        Due.is("eight, and one behind: l+l+l+l+c", y.rule(0), 5);
        Due.is("its rank", y.rank(1, 0), 127);
    }

    private static void typeBytes() {
        Said.says("BAD: n, a byte not 32 .. 126;");
        for (int place = 0; place < 8; place++) {
            int shift = 8 * place;
            Span.bounds("byte " + place, 32, 126, BAD, b ->
                new TurnPort().type(0x6363636363636363L & ~(0xffL << shift) | (b & 0xffL) << shift, 8));
            Due.is("byte 255 at " + place, new TurnPort().type(0x6363636363636363L | 0xffL << shift, 8), BAD);
            Due.is("byte 128 at " + place, new TurnPort().type(0x2020202020202020L | 0x80L << shift, 8), BAD);
            if (place > 0) {
                Due.is("a byte above the n lowest", new TurnPort().type(0x6363636363636363L | 0xffL << shift, place), place);
            }
        }
        TurnPort x = new TurnPort();
        x.type(0x63, 1);
        Due.is("a wrong byte behind a good one", x.type(0x2b1f, 2), BAD);
        Due.is("none of them came", x.rule(0), 1);
    }

    private static void typeFull() {
        Said.says("FULL: 40.");
        TurnPort x = new TurnPort();
        for (int i = 1; i <= 4; i++) {
            x.type(0x2020202020202020L, 8);
        }
        Due.is("32 and 8", x.type(0x2020202020202063L, 8), 40);
        Due.is("40 and 1", x.type(0x20, 1), TurnPort.FULL);
        Due.is("the 40th byte counts", x.rule(0), 1);
        Due.is("there is room again", x.type(0x20, 1), 1);
        for (int i = 1; i <= 4; i++) {
            x.type(0x2020202020202020L, 8);
        }
        Due.is("33 and 8", x.type(0x6363636363636363L, 8), TurnPort.FULL);
        Due.is("none of them came", x.type(0x2020202020202bL, 7), 40);
        Due.is("the end of 40 bytes", x.rule(0), -60);
        Tapes.type(x, blanksOf(39));
        Due.is("39 and 2", x.type(0x2020, 2), TurnPort.FULL);
        Due.is("39 and 1", x.type(0x20, 1), 40);
    }

    private static void rule() {
        Said.says("`int rule(int which)`: THE TAPE, which is empty then, is THE RULE (0), THE ROOT's (1): how many TERMS. "
            + "BAD (THE TAPE stays); a FAULT.");
        Span.bounds("rule, which", 0, 1, BAD, which -> {
            TurnPort x = new TurnPort();
            x.type(0x63, 1);
            return x.rule(which);
        });
        TurnPort x = withWords();
        x.type(0x6c, 1);
        Due.is("no such rule", x.rule(2), BAD);
        Due.is("nor this", x.rule(-1), BAD);
        Due.is("the tape stays", x.type(0x20, 1), 2);
        Due.is("as it was", x.rule(1), 1);
        Due.is("the root's", x.rank(1, 1), 30);
        Due.is("the tape is empty then", x.type(0x78, 1), 1);
        Due.is("a fault", x.rule(0), -20);
        Due.is("the rule stays", x.rank(1, 0), 2);
        Due.is("the tape is empty behind a fault too", x.type(0x63, 1), 1);
        Due.is("the rule", x.rule(0), 1);
        Due.is("is c", x.rank(1, 0), 7);
        Due.is("an empty tape is no rule", x.rule(0), -20);
        Due.is("and changes nothing", x.rank(1, 0), 7);
    }

    private static void rank() {
        Said.says("`long rank(int word, int which)`: RANK of a WORD in its HOUSE (0), of its MARK (1), as by RULES now. "
            + "BAD less 2^40 (-1099511627777).");
        TurnPort x = new TurnPort();
        Due.is("no word yet", x.rank(0, 0), NO_RANK);
        for (int l = 2; l <= 4; l++) {
            x.come(0, l);
        }
        x.full(0, 1);
        x.come(0, 5);
        x.ticks(3);
        Tapes.rule(x, 0, "-l");
        Tapes.rule(x, 1, "l");
        int[] states = {2, 1, 0, 3};
        for (int w = 0; w < 4; w++) {
            Due.is("word " + w + " is", x.told(w, 0), states[w]);
            Due.is("its rank", x.rank(w, 0), -2 - w);
            Due.is("its mark's", x.rank(w, 1), 2 + w);
        }
        Span.bounds("rank, word", 0, 3, NO_RANK, w -> x.rank(w, 0));
        Span.bounds("rank, which", 0, 1, NO_RANK, which -> x.rank(0, which));
    }
}
