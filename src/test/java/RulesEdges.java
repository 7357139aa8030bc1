/** 'Terms' 6 and promises 35 to 40, sentence by sentence. */
final class RulesEdges {
    private static final int MIN = Integer.MIN_VALUE;
    private static final int MAX = Integer.MAX_VALUE;
    private static final String EIGHT = "first men;first men;first men;first men;first men;first men;first men;first men;";

    private final Edges e;

    RulesEdges(Edges e) {
        this.e = e;
    }

    void all() {
        readFromTexts();
        tape();
        text();
        lines();
        wordsAndNumbers();
        blanks();
        numbers();
        open();
        faultPlace();
        faultNinthLine();
        faultFifthOpen();
        faultKindHad();
        faultEnd();
        versionsAsTold();
        inAMinute();
        lackAsTold();
        lackAtLeast();
        lackWithout();
        rankAsTold();
        rankWithout();
        mustAsTold();
        mustFar();
        feed();
        feedBad();
        feedFull();
        read();
        readFault();
        readFull();
        version();
        versionBad();
        lack();
        lackBad();
        rank();
        rankBad();
        must();
        mustBad();
    }

    private void reads(String text, int lines) {
        HalfBoats x = new HalfBoats();
        e.is("read '" + text + "'", Due.read(x, text), 0);
        e.is("LINES of '" + text + "'", x.version(0, 0), lines);
    }

    /** The FAULT is where the ^ stands, which is not part of the text. */
    private void fault(String text) {
        HalfBoats x = new HalfBoats();
        e.is("read '" + text + "'", Due.read(x, text.replace("^", "")), -100 - text.indexOf('^'));
        e.is("VERSIONS behind '" + text + "'", x.many(9), 0);
    }

    private void readFromTexts() {
        e.says("6", "RULES are read from TEXTS.");
        HalfBoats x = new HalfBoats();
        e.is("no RULES at first", x.rank(2, 0), 9);
        Due.read(x, "first men;");
        e.is("then", x.rank(2, 0), 0);
        e.is("feeding alone changes nothing", x.feed(0x20, 1), 1);
        e.is("as it was", x.rank(2, 0), 0);
    }

    private void tape() {
        e.says("6", "THE TAPE takes bytes, 200 at most; read() uses it up.");
        HalfBoats x = new HalfBoats();
        StringBuilder text = new StringBuilder("first men;");
        while (text.length() < 200) {
            text.append(' ');
        }
        Due.feed(x, text.toString());
        e.is("200", x.many(12), 200);
        e.full("one more", x.feed(0x20, 1));
        e.is("read", x.read(), 0);
        e.is("used up", x.many(12), 0);
        e.is("one of an empty TAPE", x.read(), 1);
        e.is("no LINES", x.version(1, 0), 0);
        e.is("and there is room", x.feed(0x20, 1), 1);
    }

    private void text() {
        e.says("6", "TEXT: { LINE ; }, 8 LINES at most.");
        reads("", 0);
        reads(" ", 0);
        reads("first men;", 1);
        reads(EIGHT, 8);
        reads(EIGHT + " ", 8);
        fault(EIGHT + "^first men;");
        fault("^;");
        fault("first men;^;");
        fault("first men^");
        fault("first men ^first men;");
    }

    private void lines() {
        e.says("6", "LINE: seats N for N | first KIND { then KIND } | come if COND KIND: children | women | men COND: ALL { or ALL } ALL: ONE { and ONE } "
            + "ONE: { not } ( \"(\" COND \")\" | heard | NAME SIGN N ) NAME: far | speed | minute SIGN: < | = | >");
        String[] fine = {"seats 1 for 2;", "first children;", "first women;", "first men;", "first men then children;", "first women then men then children;",
            "come if heard;", "come if far<1;", "come if far=1;", "come if far>1;", "come if speed<1;", "come if speed=1;", "come if speed>1;",
            "come if minute<1;", "come if minute=1;", "come if minute>1;", "come if not heard;", "come if not not not far<1;", "come if (heard);",
            "come if not(not heard);", "come if heard or heard or heard;", "come if heard and heard and heard;", "come if (heard or far<1)and not(speed>1 and minute=1);"};
        for (String t : fine) {
            reads(t, 1);
        }
        String[] wrong = {"^seat 1 for 2;", "seats ^for 2;", "seats 1 ^2;", "seats 1 for ^;", "first ^then men;", "first men ^children;", "first men then ^;",
            "come ^heard;", "come if ^;", "come if ^or heard;", "come if ^and heard;", "come if heard ^not heard;", "come if not ^and heard;", "come if (^);",
            "come if ^);", "come if heard^);", "come if heard ^<1;", "come if far ^and heard;", "come if far<^far;", "come if far<^>1;", "come if ^1<far;",
            "come if ^men;", "first ^far;", "seats ^far for 1;", "^men;", "^heard;", "come if heard ^then heard;", "first men ^or women;"};
        for (String t : wrong) {
            fault(t);
        }
        inAnothersPlace();
    }

    /** Every WORD, NUMBER and sign at every place of some LINES: where it can't stand is the FAULT. */
    private void inAnothersPlace() {
        String[] all = {"seats", "for", "first", "then", "come", "if", "or", "and", "not", "heard", "far", "speed", "minute", "children", "women", "men",
            "(", ")", "<", "=", ">", ";", "5", "xyz", "?"};
        // The texts with blanks between, and for each place of them all that TEXTS go on with.
        String[][] texts = {{"seats", "1", "for", "2", ";"}, {"first", "men", "then", "women", ";"}, {"come", "if", "heard", "or", "far", "<", "3", ";"}};
        String begin = " seats first come ";
        String one = " not ( heard far speed minute ";
        String[][] can = {{begin, " 5 ", " for ", " 5 ", " ; "}, {begin, " children women men ", " then ; ", " children women ", " then ; "},
            {begin, " if ", one, " or and ; ", one, " < = > ", " 5 ", " or and ; "}};
        for (int t = 0; t < texts.length; t++) {
            StringBuilder ahead = new StringBuilder();
            for (int place = 0; place < texts[t].length; place++) {
                for (String word : all) {
                    if (!can[t][place].contains(" " + word + " ")) {
                        fault(ahead + "^" + word + " ;");
                    }
                }
                ahead.append(texts[t][place]).append(' ');
            }
        }
    }

    private void wordsAndNumbers() {
        e.says("6", "WORDS are rows of letters a to z, NUMBERS rows of digits (3 at most), as long as they go;");
        reads("seats 1for 2;", 1);
        reads("come if far<1or far<2and heard;", 1);
        reads("seats1for2;", 1);
        fault("seats^1000for2;");
        fault("seats 1 for ^2000;");
        fault("seats ^0001 for 2;");
        fault("come if far<^1234;");
        fault("^firstmen;");
        fault("first ^menthen women;");
        fault("come ^ifheard;");
        fault("come if ^notheard;");
        fault("come if ^heardor heard;");
        String[] words = {"seats", "for", "first", "then", "come", "if", "or", "and", "not", "heard", "far", "speed", "minute", "children", "women", "men"};
        String[] ahead = {"", "seats 1 ", "", "first men ", "", "come ", "come if heard ", "come if heard ", "come if ", "come if ", "come if ", "come if ",
            "come if ", "first ", "first ", "first "};
        for (int w = 0; w < words.length; w++) {
            for (int i = 0; i < words[w].length(); i++) {
                String head = words[w].substring(0, i);
                String tail = words[w].substring(i + 1);
                fault(ahead[w] + "^" + head + "z" + tail + " 1");
                fault(ahead[w] + (i == 0 ? "^" : "^" + head) + tail + " 1");
            }
            fault(ahead[w] + "^" + words[w] + "z 1");
            fault(ahead[w] + "^z" + words[w] + " 1");
            fault(ahead[w] + "^a" + words[w] + " 1");
        }
        fault("first ^mens;");
        fault("first ^me;");
        fault("first ^Men;");
        fault("first ^`men;");
        fault("first ^{men;");
        fault("first ^@;");
        fault("first ^[;");
        fault("seats ^/ for 2;");
        fault("seats ^: for 2;");
    }

    private void blanks() {
        e.says("6", "blanks (32) between.");
        reads("  seats   1   for   2   ;  first   men  ;  ", 2);
        reads("come if ( ( heard ) ) and far < 1 ;", 1);
        reads("come if((heard))and far<1;", 1);
        fault("first^\tmen;");
        fault("first^\nmen;");
        fault("first^\u001fmen;");
        fault("first^!men;");
        fault("first^\u00a0men;");
        fault("first^\u0000men;");
        fault("seats 1 ^2 for 3;");
        fault("come if far< ^= 1;");
        fault("^fir st men;");
    }

    private void numbers() {
        e.says("6", "N: 0 to 999 (the second of seats 1 to 999).");
        reads("seats 0 for 1;", 1);
        reads("seats 000 for 001;", 1);
        reads("seats 999 for 999;", 1);
        reads("come if far<0;", 1);
        reads("come if far<999;", 1);
        fault("seats 0 for ^0;");
        fault("seats 0 for ^00;");
        fault("seats 0 for ^000;");
        fault("seats ^1000 for 1;");
        fault("seats 1 for ^1000;");
        fault("come if far<^1000;");
        fault("seats ^-1 for 1;");
    }

    private void open() {
        e.says("6", "At most 4 \"(\" are open within one another.");
        reads("come if ((((heard))));", 1);
        reads("come if ((((heard))))and((((heard))));", 1);
        reads("come if (heard)and(heard)and(heard)and(heard)and(heard)or(heard);", 1);
        reads("come if ((((heard)or(heard))and(heard))or(heard));", 1);
        fault("come if ((((^(heard)))));");
    }

    private void faultPlace() {
        e.says("6", "FAULT: the place (from 0) of the first byte of the first WORD, NUMBER or other byte with which no TEXT goes on, or that is not as told");
        fault("^x");
        fault("   ^x");
        fault("^7");
        fault("^\u00ff");
        fault("first men; ^nobody; nobody;");
        fault("first men then ^nobody; nothing");
        fault("seats 12 for ^xyz;");
        fault("seats 12 ^345;");
        fault("come if far < 12 ^345;");
        fault("come if ^or ;");
        fault("come if ^and and and");
        fault("come if heard or ^or ;");
        fault("come if heard and ^or );");
        fault("come if not ^or heard or;");
        fault("come if (^or ;");
        fault("come if far ^or heard or;");
        fault("come if far < ^or heard or;");
        fault("come if far ^? 1 or;");
        fault("come if (heard ^; first;");
        fault("come if (^) or ;");
        fault("come if (heard or ^) or ;");
        fault("come if (heard and ^) or ;");
        fault("come if (not ^) or ;");
        StringBuilder last = new StringBuilder();
        while (last.length() < 199) {
            last.append(' ');
        }
        fault(last + "^x");
    }

    private void faultNinthLine() {
        e.says("6", "(the ninth LINE: its first WORD;");
        fault(EIGHT + "^first men;");
        fault(EIGHT + "  ^come if heard;");
        fault(EIGHT + "^seats");
        fault(EIGHT + "^nothing");
        fault(EIGHT.substring(0, EIGHT.length() - 1) + " ^first men;");
    }

    private void faultFifthOpen() {
        e.says("6", "the fifth \"(\";");
        fault("come if ((((^(");
        fault("come if ( ( ( (   ^( heard");
        fault("come if (not(not(not(not^(heard)))));");
        fault("come if (heard)and((((heard or^(heard)))));");
    }

    private void faultKindHad() {
        e.says("6", "a KIND that was had in this LINE),");
        fault("first men then ^men;");
        fault("first children then women then ^children;");
        fault("first children then women then men then ^women;");
        fault("first children then women then men then ^;");
        fault("first children then women then men then ^then;");
        reads("first men;first men then women;first women then men;", 3);
    }

    private void faultEnd() {
        e.says("6", "or the end (how many bytes there are), if more must come.");
        String[] wrong = {"seats^", "seats ^", "seats 1^", "seats 1 for^", "seats 1 for 2^", "seats 1 for 2  ^", "first^", "first men^", "first men then^",
            "first children then women then men then^", "come^", "come if^", "come if not^", "come if (^", "come if (heard^", "come if (heard)^", "come if heard or^",
            "come if heard and^", "come if far^", "come if far<^", "come if far<1^", "come if ((((^", "first men; come ^"};
        for (String t : wrong) {
            fault(t);
        }
        StringBuilder long200 = new StringBuilder("first men");
        while (long200.length() < 200) {
            long200.append(' ');
        }
        fault(long200 + "^");
        fault("come if" + " ".repeat(185) + "far<^1234");
        fault("seats" + " ".repeat(192) + "123^");
        fault("seats" + " ".repeat(191) + "^1234");
        fault("come if" + " ".repeat(188) + "heard^");
        fault("come if" + " ".repeat(188) + "^heart");
    }

    private void versionsAsTold() {
        e.says("6", "VERSIONS, 6 at most, numbered as they come: a TEXT that is read is THE RULES from NOW on;");
        HalfBoats x = new HalfBoats();
        for (int i = 0; i < 6; i++) {
            e.is("number", Due.read(x, i % 2 == 0 ? "first men;" : "first women then men;"), i);
            e.is("THE RULES from NOW on", x.rank(2, 10 * i), i % 2);
            x.minutes(10);
        }
        e.full("the seventh", Due.read(x, "first children;"));
        e.is("how many", x.many(9), 6);
        e.is("THE RULES stay", x.rank(2, 999), 1);
    }

    private void inAMinute() {
        e.says("6", "in a MINUTE THE RULES are the latest that were read in it or ahead (none: an empty TEXT).");
        HalfBoats x = new HalfBoats();
        x.ship(5050, 1, 0, 0);
        x.minutes(5);
        Due.read(x, "first men;seats 1 for 1;come if far=0;");
        e.is("RANK in 4", x.rank(2, 4), 9);
        e.is("LACK in 4", x.lack(4), 0);
        e.is("MUST in 4", x.must(0, 4), 0);
        e.is("RANK in 5", x.rank(2, 5), 0);
        e.is("LACK in 5", x.lack(5), 800);
        e.is("MUST in 5", x.must(0, 5), 1);
        Due.read(x, "first women then men;");
        e.is("the latest of one MINUTE", x.rank(2, 5), 1);
        e.is("nothing of the one ahead is left", x.lack(5), 0);
        x.minutes(5);
        Due.read(x, "");
        e.is("in 9", x.rank(2, 9), 1);
        e.is("an empty TEXT in 10", x.rank(2, 10), 9);
        HalfBoats y = new HalfBoats();
        y.ship(5050, 1, 0, 0);
        Due.read(y, "come if far=0;");
        y.minutes(1);
        Due.read(y, "seats 999 for 1;come if far=1;");
        e.is("older RULES in their MINUTE", y.must(0, 0), 1);
        e.is("the latest in theirs", y.must(0, 1), 0);
    }

    private void lackAsTold() {
        e.says("6", "LACK in a MINUTE: by the latest seats a for b: a times (all ROOM by b, cut) less all SEATS of BOATS;");
        int[][] cases = {{1, 1, 800}, {1, 800, 1}, {1, 801, 0}, {999, 799, 999}, {3, 300, 6}, {0, 1, 0}, {999, 1, 799200}};
        for (int[] c : cases) {
            HalfBoats x = new HalfBoats();
            Due.read(x, "seats 5 for 5;first men;seats " + c[0] + " for " + c[1] + ";");
            e.is("seats " + c[0] + " for " + c[1], x.lack(0), c[2]);
        }
        HalfBoats y = new HalfBoats();
        for (int i = 0; i < 8; i++) {
            y.set(i, 0, 999);
            y.boat(65, 0, 0, 0);
        }
        Due.read(y, "seats 999 for 1;");
        e.is("as many as there can be", y.lack(0), 999 * 7992 - 520);
    }

    private void lackAtLeast() {
        e.says("6", "0 at least;");
        HalfBoats x = new HalfBoats();
        Due.read(x, "seats 1 for 10;");
        x.boat(65, 0, 0, 0);
        x.boat(14, 0, 0, 0);
        e.is("80 less 79", x.lack(0), 1);
        x.boat(1, 0, 0, 0);
        e.is("80 less 80", x.lack(0), 0);
        x.boat(1, 0, 0, 0);
        e.is("80 less 81", x.lack(0), 0);
    }

    private void lackWithout() {
        e.says("6", "0 without.");
        HalfBoats x = new HalfBoats();
        e.is("without RULES", x.lack(0), 0);
        Due.read(x, "first men;come if heard;");
        e.is("without seats", x.lack(0), 0);
        x.boat(65, 0, 0, 0);
        e.is("with BOATS", x.lack(0), 0);
    }

    private void rankAsTold() {
        e.says("6", "RANK of a KIND: its place in the latest first (from 0);");
        String[] kinds = {"children", "women", "men"};
        int[][] orders = {{0, 1, 2}, {0, 2, 1}, {1, 0, 2}, {1, 2, 0}, {2, 0, 1}, {2, 1, 0}};
        for (int[] o : orders) {
            HalfBoats x = new HalfBoats();
            Due.read(x, "first men;first " + kinds[o[0]] + " then " + kinds[o[1]] + " then " + kinds[o[2]] + ";seats 1 for 1;");
            for (int i = 0; i < 3; i++) {
                e.is(kinds[o[i]] + " as the " + i + "-th", x.rank(o[i], 0), i);
            }
        }
    }

    private void rankWithout() {
        e.says("6", "9 without.");
        HalfBoats x = new HalfBoats();
        e.is("without RULES", x.rank(0, 0), 9);
        Due.read(x, "seats 1 for 1;");
        e.is("without first", x.rank(0, 0), 9);
        Due.read(x, "first children then women;first men;");
        e.is("not in the latest first", x.rank(0, 0), 9);
        e.is("nor this one", x.rank(1, 0), 9);
        e.is("but this one", x.rank(2, 0), 0);
    }

    private void mustAsTold() {
        e.says("6", "MUST come a SHIP in a MINUTE: COND of some come holds: heard: it HEARS some CALL of that MINUTE or ahead;");
        HalfBoats x = new HalfBoats();
        x.ship(5060, 1, 20030, 10);
        x.ship(5060, 1, 20030, 9);
        Due.read(x, "come if heard;");
        x.call(31);
        x.call(30);
        x.call(19);
        e.is("in 29", x.must(0, 29), 0);
        e.is("in 30", x.must(0, 30), 1);
        e.is("in 999", x.must(0, 999), 1);
        x.call(20);
        e.is("in 19", x.must(0, 19), 0);
        e.is("in 20", x.must(0, 20), 1);
        e.is("one too FAR", x.must(1, 999), 0);
        HalfBoats y = new HalfBoats();
        y.ship(5050, 1, 0, 0);
        Due.read(y, "come if far=1;come if far=0;come if far=2;");
        e.is("some come, the second", y.must(0, 0), 1);
        Due.read(y, "come if far=1;first men;come if far=2;");
        e.is("none", y.must(0, 0), 0);
        Due.read(y, "seats 999 for 999;come if far=1;seats 999 for 999;come if far=0;");
        e.is("the second, among others", y.must(0, 0), 1);
        conditions();
    }

    /** Of a SHIP 0 FAR: 1 for far=0, 0 for far=1. */
    private void conditions() {
        String[] yes = {"far=0 or far=1", "far=1 or far=0", "far=0 and far=0", "not far=1", "not not far=0", "far=0 or far=1 and far=1", "far=1 and far=1 or far=0",
            "(far=0 or far=1)and far=0", "not(far=0 and far=1)", "not far=1 and far=0", "far=0 and(far=1 or far=0)", "far=1 or far=1 or far=0", "far=0 and not(far=1 or far=1)",
            "far=0 or far=0 and far=1 and far=1", "((((far=1 or far=0)and far=0)or far=1)and far=0)", "far=1 or far=0 and(far=1 or far=0 and(far=1 or far=0))"};
        String[] no = {"far=1 or far=1", "far=0 and far=1", "far=1 and far=0", "far=1 and far=1", "not far=0", "not not far=1", "(far=0 or far=1)and far=1",
            "far=1 and(far=0 or far=0)", "not(far=0 or far=1)", "not far=0 or far=1", "far=0 and far=0 and far=1", "far=0 and not(far=1 or far=0)",
            "((((far=1 or far=0)and far=1)or far=1)and far=0)", "far=1 or far=0 and(far=1 or far=0 and(far=1 or far=1))"};
        for (int i = 0; i < yes.length + no.length; i++) {
            String cond = i < yes.length ? yes[i] : no[i - yes.length];
            HalfBoats x = new HalfBoats();
            x.ship(5050, 1, 0, 0);
            e.is("read " + cond, Due.read(x, "come if " + cond + ";"), 0);
            e.is(cond, x.must(0, 0), i < yes.length ? 1 : 0);
        }
    }

    private void mustFar() {
        e.says("6", "far: FAR where it is at first; speed; minute.");
        HalfBoats x = new HalfBoats();
        x.ship(5070, 40, 999, 200);
        x.call(0);
        Due.read(x, "come if far=20;");
        e.is("FAR as it is at first, though it has come", x.must(0, 999), 1);
        String[] names = {"far", "speed", "minute"};
        int[] values = {20, 40, 7};
        for (int i = 0; i < 3; i++) {
            for (int d = -1; d <= 1; d++) {
                HalfBoats y = new HalfBoats();
                y.ship(5070, 40, 999, 200);
                int n = values[i] + d;
                Due.read(y, "come if " + names[i] + "<" + n + ";");
                e.is(names[i] + " < " + n, y.must(0, 7), d > 0 ? 1 : 0);
                Due.read(y, "come if " + names[i] + "=" + n + ";");
                e.is(names[i] + " = " + n, y.must(0, 7), d == 0 ? 1 : 0);
                Due.read(y, "come if " + names[i] + ">" + n + ";");
                e.is(names[i] + " > " + n, y.must(0, 7), d < 0 ? 1 : 0);
            }
        }
        HalfBoats z = new HalfBoats();
        z.ship(0, 1, 0, 0);
        Due.read(z, "come if minute=0;come if minute>998;");
        e.is("minute 0", z.must(0, 0), 1);
        e.is("minute 1", z.must(0, 1), 0);
        e.is("minute 998", z.must(0, 998), 0);
        e.is("minute 999", z.must(0, 999), 1);
    }

    private void feed() {
        e.says("P35", "n bytes (1 to 8) come to THE TAPE, the lowest of eight first: how many it has.");
        HalfBoats x = new HalfBoats();
        long first = 0x6d20747372696620L;
        e.is("' first m', eight", x.feed(first, 8), 8);
        e.is("'en;', three of eight", x.feed(0xffffffff_ff3b6e65L, 3), 11);
        e.is("it is a TEXT", x.read(), 0);
        e.is("a LINE", x.version(0, 10), 1);
        for (int n = 1; n <= 8; n++) {
            HalfBoats y = new HalfBoats();
            e.is("n " + n, y.feed(-1L, n), n);
            e.is("many(12)", y.many(12), n);
        }
        HalfBoats z = new HalfBoats();
        z.feed(0x3b20202020202020L, 8);
        e.is("the highest last", z.read(), -107);
        z.feed(0x803b202020202020L, 8);
        e.is("a highest one below 0: the one ahead is the FAULT", z.read(), -106);
        z.feed(0x8020202020202020L, 8);
        e.is("a highest one below 0", z.read(), -107);
    }

    private void feedBad() {
        e.says("P35", ". BAD;");
        HalfBoats x = new HalfBoats();
        int[] no = {MIN, -8, -1, 0, 9, MAX};
        for (int n : no) {
            e.bad("feed(0, " + n + ")", x.feed(0, n));
        }
        e.is("none came", x.many(12), 0);
    }

    private void feedFull() {
        e.says("P35", "FULL: more than 200.");
        HalfBoats x = new HalfBoats();
        for (int i = 0; i < 24; i++) {
            x.feed(0x2020202020202020L, 8);
        }
        e.is("192 and 1", x.feed(0x20, 1), 193);
        e.full("193 and 8", x.feed(0, 8));
        e.is("none of them came", x.many(12), 193);
        e.is("193 and 7", x.feed(0x2020202020202020L, 7), 200);
        for (int n = 1; n <= 8; n++) {
            e.full("200 and " + n, x.feed(0, n));
        }
        e.is("it is a TEXT", x.read(), 0);
    }

    private void read() {
        e.says("P36", "THE TAPE is a TEXT: the number of the VERSION;");
        HalfBoats x = new HalfBoats();
        e.is("nothing fed", x.read(), 0);
        e.is("a TEXT", Due.read(x, "first men;"), 1);
        Due.read(x, "first");
        e.is("a FAULT takes no number", Due.read(x, "first men;"), 2);
    }

    private void readFault() {
        e.says("P36", "-100 less its FAULT.");
        e.is("place 0", Due.read(new HalfBoats(), ";"), -100);
        e.is("place 1", Due.read(new HalfBoats(), " ;"), -101);
        e.is("the end", Due.read(new HalfBoats(), "first men"), -109);
        HalfBoats x = new HalfBoats();
        Due.read(x, "first men;");
        x.minutes(1);
        e.is("a FAULT behind LINES that are right", Due.read(x, "first women;seats 1 for 1;come"), -130);
        e.is("THE RULES stay", x.rank(2, 1), 0);
        e.is("no other", x.rank(1, 1), 9);
        e.is("nor seats", x.lack(1), 0);
        e.is("VERSIONS", x.many(9), 1);
        e.is("a TEXT behind it", Due.read(x, "come if minute=1;"), 1);
        e.is("has its own LINES alone", x.version(1, 0), 1);
        e.is("and no seats", x.lack(1), 0);
        HalfBoats y = new HalfBoats();
        y.ship(5050, 1, 0, 0);
        e.is("a FAULT behind come LINES", Due.read(y, "come if far=0;come if far=0;come"), -132);
        e.is("a TEXT behind it", Due.read(y, "come if far=1;"), 0);
        e.is("no LINE of the FAULT bids", y.must(0, 0), 0);
        for (int i = 0; i < 20; i++) {
            Due.read(y, "come if far=1 or far=1 or far=1 or far=1 or far=1 or far=1 or far=1 or far=1");
        }
        e.is("a TEXT behind twenty", Due.read(y, "come if far=1 or far=1 or not far=1;"), 1);
        e.is("is whole", y.must(0, 0), 1);
        StringBuilder signs = new StringBuilder();
        while (signs.length() < 200) {
            signs.append(';');
        }
        e.is("200 bytes, each of its own", Due.read(x, signs.toString()), -100);
        e.is("a TEXT behind that", Due.read(x, "first men;"), 2);
    }

    private void readFull() {
        e.says("P36", "FULL (behind a FAULT).");
        HalfBoats x = new HalfBoats();
        for (int i = 0; i < 6; i++) {
            e.is("number", x.read(), i);
        }
        e.full("an empty TEXT", x.read());
        e.full("a TEXT", Due.read(x, "first men;"));
        e.is("a FAULT goes ahead", Due.read(x, "first me;"), -106);
        e.is("the end goes ahead", Due.read(x, "first"), -105);
        e.is("VERSIONS", x.many(9), 6);
        e.is("THE RULES stay", x.rank(2, 0), 9);
    }

    private void version() {
        e.says("P37", "Of a VERSION: what = 0 how many LINES, 1 from which MINUTE, 10 + i of LINE i its sort (0 seats, 1 first, 2 come).");
        HalfBoats x = new HalfBoats();
        Due.read(x, "");
        x.minutes(200);
        Due.read(x, "first men;come if heard;seats 1 for 1;first men;come if heard;seats 1 for 1;first men;come if heard;");
        e.is("no LINES", x.version(0, 0), 0);
        e.is("from 0", x.version(0, 1), 0);
        e.is("eight LINES", x.version(1, 0), 8);
        e.is("from 200", x.version(1, 1), 200);
        for (int i = 0; i < 8; i++) {
            e.is("LINE " + i, x.version(1, 10 + i), (i + 1) % 3);
        }
    }

    private void versionBad() {
        e.says("P37", "BAD: there is none such, another what.");
        HalfBoats x = new HalfBoats();
        e.bad("no VERSION", x.version(0, 0));
        Due.read(x, "first men;first men;");
        int[][] no = {{-1, 0}, {1, 0}, {6, 0}, {MIN, 0}, {MAX, 0}, {0, -1}, {0, 2}, {0, 9}, {0, 12}, {0, 17}, {0, 18}, {0, MIN}, {0, MAX}};
        for (int[] n : no) {
            e.bad("version(" + n[0] + ", " + n[1] + ")", x.version(n[0], n[1]));
        }
        Due.read(x, "seats 1 for");
        e.bad("a FAULT is no VERSION", x.version(1, 0));
        x.read();
        e.bad("no LINE of an empty TEXT", x.version(1, 10));
    }

    private void lack() {
        e.says("P38", "LACK in a MINUTE.");
        HalfBoats x = new HalfBoats();
        Due.read(x, "seats 1 for 1;");
        e.is("in 0", x.lack(0), 800);
        e.is("in 999", x.lack(999), 800);
        x.set(0, 0, 10);
        e.is("ROOM as it is", x.lack(0), 710);
    }

    private void lackBad() {
        e.says("P38", ". BAD.");
        int[] no = {MIN, -1, 1000, MAX};
        for (int m : no) {
            e.bad("lack(" + m + ")", new HalfBoats().lack(m));
        }
    }

    private void rank() {
        e.says("P39", "RANK of a KIND in a MINUTE.");
        HalfBoats x = new HalfBoats();
        x.minutes(1);
        Due.read(x, "first men then children;");
        for (int kind = 0; kind < 3; kind++) {
            e.is("in 0", x.rank(kind, 0), 9);
            e.is("in 1", x.rank(kind, 1), kind == 0 ? 1 : kind == 1 ? 9 : 0);
            e.is("in 999", x.rank(kind, 999), kind == 0 ? 1 : kind == 1 ? 9 : 0);
        }
    }

    private void rankBad() {
        e.says("P39", ". BAD.");
        int[][] no = {{-1, 0}, {3, 0}, {MIN, 0}, {MAX, 0}, {0, -1}, {0, 1000}, {2, MIN}, {2, MAX}};
        for (int[] n : no) {
            e.bad("rank(" + n[0] + ", " + n[1] + ")", new HalfBoats().rank(n[0], n[1]));
        }
    }

    private void must() {
        e.says("P40", "Whether a SHIP MUST come in a MINUTE: 1, 0.");
        HalfBoats x = new HalfBoats();
        x.ship(5050, 1, 0, 0);
        x.ship(5051, 1, 0, 0);
        e.is("without RULES", x.must(0, 0), 0);
        Due.read(x, "come if far=0;");
        e.is("1", x.must(0, 0), 1);
        e.is("0", x.must(1, 0), 0);
        Due.read(x, "come if not far=0;");
        e.is("0", x.must(0, 0), 0);
        e.is("1", x.must(1, 0), 1);
    }

    private void mustBad() {
        e.says("P40", ". BAD.");
        HalfBoats x = new HalfBoats();
        e.bad("no SHIP", x.must(0, 0));
        x.ship(5050, 1, 0, 0);
        int[][] no = {{-1, 0}, {1, 0}, {MIN, 0}, {MAX, 0}, {0, -1}, {0, 1000}, {0, MIN}, {0, MAX}};
        for (int[] n : no) {
            e.bad("must(" + n[0] + ", " + n[1] + ")", x.must(n[0], n[1]));
        }
    }
}
