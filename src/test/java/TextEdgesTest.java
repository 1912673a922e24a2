/** The edges of promise 8: the TEXT, its ITEMS and TOKENS, and where each FAULT lies. */
public final class TextEdgesTest {
    private static final String EIGHT = "code;entry 0 0 0;entry 0 0 1;entry 0 0 2;entry 0 0 3;entry 0 0 4;entry 0 0 5;"
            + "entry 0 0 6;entry 0 0 7;";

    public static void main(String[] args) {
        items();
        tokens();
        wordFaults();
        codeFaults();
        entryFaults();
        stateFaults();
        numberFaults();
        rowFaults();
        byteFaults();
        endFaults();
        firstFaults();
        fullText();
        whatIsRead();
        whatStays();
        Edges.end("edges of the text");
    }

    /** All stays, at a FAULT at this place. */
    private static void fault(String text, int place) {
        FanTalk x = Edges.type(Edges.some(), text);
        Edges.stands(x, "read() of '" + text + "'", FanTalk::read, -10 - place);
        Edges.alike("read() of '" + text + "'", x, Edges.type(Edges.some(), text));
    }

    /** So many ITEMS are read. */
    private static FanTalk good(String text, int items) {
        FanTalk x = Edges.type(Edges.some(), text);
        Edges.stands(x, "read() of '" + text + "'", FanTalk::read, items);
        return x;
    }

    private static String blanks(int many) {
        return " ".repeat(many);
    }

    private static void items() {
        Edges.edge("code (a new one, empty): one, two, three", () -> {
            for (int n = 1; n <= 3; n++) {
                FanTalk x = good("code;".repeat(n), n);
                Edges.due("count(0)", x.count(0), n);
                Edges.due("count(1)", x.count(1), 0);
            }
        });
        Edges.edge("entry c WORD STATE, or two, three STATES: the least and the greatest numbers", () -> {
            FanTalk x = good("code;code;code;entry 0 0 0;entry 2 9 11;entry 0 9 0 0;entry 2 0 11 11;entry 0 9 0 0 0;"
                    + "entry 2 0 11 11 11;", 9);
            int[][] due = {{0, 0, 12, 0}, {2, 0, 23, 9}, {0, 1, 144, 9}, {2, 1, 287, 0}, {0, 2, 1728, 9},
                {2, 2, 3455, 0}};
            for (int[] d : due) {
                Edges.due("row", x.told(d[0], d[1], 0), d[2]);
                Edges.due("word", x.told(d[0], d[1], 1), d[3]);
            }
            Edges.due("count(1)", x.count(1), 6);
            Edges.due("nothing is behind them", x.told(0, 3, 0), FanTalk.BAD);
        });
        Edges.edge("entry: a ROW (LAWFUL or not)", () -> {
            FanTalk x = good("code;entry 0 1 0 11 0;", 2);
            Edges.due("row", x.told(0, 0, 0), Edges.row(0, 11, 0));
        });
        Edges.edge("draught n (the set, 0 .. 63)", () -> {
            for (int n = 0; n < 64; n++) {
                Edges.due("count(7)", good("draught " + n + ";", 1).count(7), n);
            }
        });
        Edges.edge("draught n: told again: in place of it", () -> {
            Edges.due("count(7)", good("draught 63;draught 0;", 2).count(7), 0);
            Edges.due("count(7)", good("draught 1;draught 2;", 2).count(7), 2);
            Edges.due("count(7)", good("draught 5;code;draught 5;", 3).count(7), 5);
        });
        Edges.edge("how many ITEMS: none, one, as many as 250 bytes can have", () -> {
            good("", 0);
            good("code;", 1);
            good("draught0;".repeat(27), 27);
            good("draught1;".repeat(27) + "code;", 28);
        });
        Edges.edge("a CODE has eight ENTRIES at most: eight of one, and of another one", () -> {
            FanTalk x = good(EIGHT, 9);
            Edges.due("count(1)", x.count(1), 8);
            x = good(EIGHT + "code;entry1 0 0;entry1 0 1;entry1 0 2;entry1 0 3;entry1 0 4;entry1 0 5;entry1 0 6;"
                    + "entry1 0 7;", 18);
            Edges.due("count(1)", x.count(1), 16);
            Edges.due("told", x.told(1, 7, 0), 19);
        });
    }

    private static void tokens() {
        Edges.edge("figures (1 or 2 are one number)", () -> {
            FanTalk x = good("code;entry 00 09 00 11 01;draught 07;", 3);
            Edges.due("row", x.told(0, 0, 0), Edges.row(0, 11, 1));
            Edges.due("word", x.told(0, 0, 1), 9);
            Edges.due("count(7)", x.count(7), 7);
        });
        Edges.edge("blanks (32), any number, ahead of, between and behind TOKENS", () -> {
            good(" code ; ", 1);
            good("  code  ;  code  ;  ", 2);
            good("code;" + blanks(245), 1);
            good(blanks(245) + "code;", 1);
            good("code" + blanks(245) + ";", 1);
            good("code;entry" + blanks(230) + "0 0  0  ;", 2);
        });
        Edges.edge("blanks: needed only between two words, two numbers", () -> {
            good("code;entry0 1 2;draught3;", 3);
            good("code;code;entry1 9 11 10 9;", 3);
            fault("codecode;", 0);
            fault("code;entrycode;", 5);
            fault("code;entry 01;", 11);
            fault("code;entry 011;", 11);
            fault("code;entry 0 12;", 13);
            fault("code;entry0 0112;", 12);
        });
        Edges.edge("each ended by ;: one, not none, not two", () -> {
            fault(";", 0);
            fault("code;;", 5);
            fault("code ; ;", 7);
            fault("code code;", 5);
            fault("draught 1 code;", 10);
            fault("code;entry 0 0 0 code;", 17);
        });
        Edges.edge("TOKENS: words of letters a .. z: a word goes on as far as they do", () -> {
            fault("codea;", 0);
            fault("codez;", 0);
            fault("codes;", 0);
            fault("acode;", 0);
            fault("co de;", 0);
            fault("code1;", 4);
            good("code;", 1);
        });
    }

    private static void wordFaults() {
        Edges.edge("FAULT: a word that is none, at its first byte", () -> {
            String[] none = {"a", "z", "c", "cod", "cade", "codf", "coder", "e", "entr", "entri", "entrys", "d",
                "draugh", "draughts", "edoc", "codeentry", "bode", "dode", "fntry", "dntry", "craught", "eraught",
                "codd", "entrx", "entrz", "draughs", "draughu"};
            for (String word : none) {
                fault(word + ";", 0);
                fault("  " + word + " 1;", 2);
                fault("code;" + word + " 0 0 0;", 5);
            }
        });
        Edges.edge("a word that is none, though the TEXT ends with it: not the TEXT's length", () -> {
            fault("cod", 0);
            fault("code;entr", 5);
            fault("code;draugh ", 5);
            fault("x", 0);
        });
        Edges.edge("a word that is none where another TOKEN is due: at its first byte", () -> {
            fault("code x;", 5);
            fault("code;entry x", 11);
            fault("code;entry 0 x", 13);
            fault("code;entry 0 0 x", 15);
            fault("code;entry 0 0 0 x", 17);
            fault("draught x;", 8);
        });
        Edges.edge("the first TOKEN that can not stand there: a word that is one, a number, a ; out of place", () -> {
            fault("7;", 0);
            fault("code;0;", 5);
            fault("code 0;", 5);
            fault("code;entry;", 10);
            fault("code;entry entry", 11);
            fault("code;entry 0;", 12);
            fault("code;entry 0 draught", 13);
            fault("code;entry 0 0;", 14);
            fault("code;entry 0 0 code", 15);
            fault("draught;", 7);
            fault("draught draught 1;", 8);
            fault("draught 1 2;", 10);
        });
    }

    private static void codeFaults() {
        Edges.edge("FAULT: a 4th code at its word", () -> {
            fault("code;code;code;code;", 15);
            fault("code;code;code;  code;", 17);
            fault("code;code;code;draught 1;code", 25);
            fault("code;code;code;code code", 15);
            fault("code;code;code;code7", 15);
            good("code;code;code;draught 1;", 4);
        });
        Edges.edge("also a CODE that is not there yet: none, one, two, three; 99", () -> {
            fault("entry 0 0 0;", 6);
            fault("entry 0 0 0;code;", 6);
            fault("code;entry 1 0 0;code;", 11);
            fault("code;code;entry 2 0 0;", 16);
            fault("code;code;code;entry 3 0 0;", 21);
            fault("code;code;code;entry 99 0 0;", 21);
            fault("code;entry  01 0 0;", 12);
            good("code;code;code;entry 2 0 0;", 4);
            good("code;entry 0 0 0;code;entry 1 0 0;", 4);
        });
        Edges.edge("a CODE that is not there yet: those that are there ahead of read() do not count", () -> {
            FanTalk x = Edges.full();
            Edges.type(x, "entry 0 0 0;");
            Edges.due("read()", x.read(), -16);
            Edges.due("count(0)", x.count(0), 3);
            Edges.type(x, "code;code;code;");
            Edges.due("nor is a code then a 4th one", x.read(), 3);
        });
    }

    private static void entryFaults() {
        Edges.edge("FAULT: a 9th entry of a CODE at c", () -> {
            fault(EIGHT + "entry 0 0 8;", 107);
            fault(EIGHT + "entry   0 0 8;", 109);
            fault(EIGHT + "entry0 0 8;", 106);
            fault(EIGHT + "code;entry 0 0 8;", 112);
            good(EIGHT + "code;entry 1 0 8;", 11);
        });
        Edges.edge("a 9th entry at c, whatever is behind it", () -> {
            fault(EIGHT + "entry 0", 107);
            fault(EIGHT + "entry 0;", 107);
            fault(EIGHT + "entry 0 10 0;", 107);
            fault(EIGHT + "entry 0 0 0;", 107);
            fault(EIGHT + "entry 0 0 12;", 107);
            fault(EIGHT + "entry x", 107);
            fault(EIGHT + "entry", 106);
        });
        Edges.edge("a 9th entry: those that are there ahead of read() do not count", () -> {
            FanTalk x = Edges.full();
            Edges.type(x, "code;code;code;entry 0 0 0;entry 2 1 1;");
            Edges.due("read()", x.read(), 5);
            Edges.due("count(1)", x.count(1), 2);
        });
    }

    private static void stateFaults() {
        Edges.edge("FAULT: a fourth STATE", () -> {
            fault("code;entry 0 0 0 0 0 0;", 21);
            fault("code;entry 0 0 11 11 11 11;", 24);
            fault("code;entry 0 0 0 0 0   0;", 23);
            fault("code;entry 0 0 0 0 0 12;", 21);
            fault("code;entry 0 0 0 0 0 999;", 21);
            fault("code;entry 0 0 0 0 0 0", 21);
        });
        Edges.edge("STATE, or two, three STATES: none is too few", () -> {
            fault("code;entry 0 0;", 14);
            fault("code;entry 0 0 ;", 15);
            good("code;entry 0 0 0;", 2);
            good("code;entry 0 0 0 0;", 2);
            good("code;entry 0 0 0 0 0;", 2);
        });
    }

    private static void numberFaults() {
        Edges.edge("FAULT: a run of three figures or more (at its first one), wherever it is", () -> {
            for (String run : new String[] {"000", "001", "010", "100", "0000", "999", "4294967296", "4294967297",
                "18446744073709551616", "0".repeat(100)}) {
                fault(run, 0);
                fault("code" + run + ";", 4);
                fault("code;entry " + run + " 0 0;", 11);
                fault("code;entry 0 " + run + " 0;", 13);
                fault("code;entry 0 0 " + run + ";", 15);
                fault("code;entry 0 0 0 " + run + ";", 17);
                fault("code;entry 0 0 0 0 " + run + ";", 19);
                fault("draught " + run + ";", 8);
            }
        });
        Edges.edge("a run of three figures where the TEXT ends with it: not the TEXT's length", () -> {
            fault("draught 000", 8);
            fault("code;entry 0 0 000", 15);
        });
        Edges.edge("a number not as told: WORD 9 and 10, 99", () -> {
            good("code;entry 0 9 0;", 2);
            fault("code;entry 0 10 0;", 13);
            fault("code;entry 0 99 0;", 13);
            fault("code;entry 0 10", 13);
        });
        Edges.edge("a number not as told: STATE 11 and 12, 99; the first, the second, the third", () -> {
            good("code;entry 0 0 11;", 2);
            good("code;entry 0 0 11 11;", 2);
            good("code;entry 0 0 11 11 11;", 2);
            fault("code;entry 0 0 12;", 15);
            fault("code;entry 0 0 11 12;", 18);
            fault("code;entry 0 0 11 11 12;", 21);
            fault("code;entry 0 0 99;", 15);
            fault("code;entry 0 0 0 99;", 17);
            fault("code;entry 0 0 0 0 99;", 19);
            fault("code;entry 0 0 0 12", 17);
        });
        Edges.edge("a number not as told: draught 63 and 64, 99", () -> {
            good("draught 63;", 1);
            fault("draught 64;", 8);
            fault("draught 99;", 8);
            fault("draught 64", 8);
            fault("draught -1;", 8);
        });
    }

    private static void rowFaults() {
        Edges.edge("FAULT: a ROW that the CODE has at the ; behind it", () -> {
            fault("code;entry 0 0 0;entry 0 1 0;", 28);
            fault("code;entry 0 0 0;entry 0 0 0;", 28);
            fault("code;entry 0 0 0;entry 0 1 00;", 29);
            fault("code;entry 0 0 0;entry 0 1 0   ;", 31);
            fault("code;entry 0 0 1 2;entry 0 1 1 2;", 32);
            fault("code;entry 0 0 1 2 3;entry 0 1 1 2 3;", 36);
            fault("code;entry 0 0 1;entry 0 0 2;entry 0 0 1;", 40);
        });
        Edges.edge("a ROW that the CODE has: another CODE may, and a part of one, and it the other way round", () -> {
            good("code;code;entry 0 0 0;entry 1 0 0;", 4);
            good("code;entry 0 0 0;entry 0 0 0 0;entry 0 0 0 0 0;", 4);
            good("code;entry 0 0 1 2;entry 0 0 2 1;", 3);
        });
        Edges.edge("a ROW that the CODE has, the ; is not there: the TEXT's length; another TOKEN is: at that", () -> {
            fault("code;entry 0 0 0;entry 0 1 0", 28);
            fault("code;entry 0 0 0;entry 0 1 0 ", 29);
            fault("code;entry 0 0 0;entry 0 1 0 code;", 29);
            good("code;entry 0 0 0;entry 0 1 0 1;", 3);
        });
        Edges.edge("a ROW that the CODE has: those that are there ahead of read() do not count", () -> {
            FanTalk x = Edges.codes("code;entry 0 0 0;");
            Edges.due("read() again", x.read(), 2);
            Edges.due("count(1)", x.count(1), 1);
        });
    }

    private static void byteFaults() {
        Edges.edge("FAULT: a byte that begins none, all that there are", () -> {
            for (int b = 0; b < 256; b++) {
                boolean begins = b == ' ' || b == ';' || b >= '0' && b <= '9' || b >= 'a' && b <= 'z';
                if (!begins) {
                    FanTalk x = Edges.type(new FanTalk(), "code ; " + (char) b + "code;");
                    Edges.stands(x, "read() of the byte " + b, FanTalk::read, -17);
                    Edges.due("count(0)", x.count(0), 0);
                }
            }
        });
        Edges.edge("a byte that begins none, in the place of each TOKEN", () -> {
            String[] none = {"A", "Z", "" + (char) 0, "" + (char) 9, "" + (char) 10, "" + (char) 31, "!", "/", ":",
                "<", "`", "{", "" + (char) 127, "" + (char) 128, "" + (char) 160, "" + (char) 255};
            for (String b : none) {
                fault(b, 0);
                fault("code" + b + ";", 4);
                fault("code;entry" + b, 10);
                fault("code;entry 0" + b, 12);
                fault("code;entry 0 0" + b, 14);
                fault("code;entry 0 0 0" + b + ";", 16);
                fault("draught 6" + b + "3;", 9);
            }
        });
        Edges.edge("a byte that begins none ends a word: what is ahead of it is looked at first", () -> {
            fault("Code;", 0);
            fault("cOde;", 0);
            fault("codE;", 0);
            fault("codeE;", 4);
        });
    }

    private static void endFaults() {
        Edges.edge("FAULT: the TEXT's length, if it ends too early: behind each TOKEN, and behind blanks", () -> {
            String[] early = {"code", "code;code", "entry", "code;entry", "code;entry 0", "code;entry 0 0",
                "code;entry 0 0 0", "code;entry 0 0 0 0", "code;entry 0 0 0 0 0", "draught", "draught 0",
                "draught 63"};
            for (String text : early) {
                fault(text, text.length());
                fault(text + " ", text.length() + 1);
                fault(text + blanks(230), text.length() + 230);
            }
        });
        Edges.edge("the TEXT's length: 250", () -> {
            fault(blanks(246) + "code", 250);
            fault("draught" + blanks(243), 250);
        });
        Edges.edge("an empty one, one of blanks alone: none", () -> {
            for (int n : new int[] {0, 1, 2, 249, 250}) {
                FanTalk x = good(blanks(n), 0);
                Edges.due("count(0)", x.count(0), 0);
                Edges.due("count(1)", x.count(1), 0);
                Edges.due("count(5)", x.count(5), 0);
                Edges.due("count(6)", x.count(6), n);
                Edges.due("count(7)", x.count(7), 0);
                Edges.due("uses(1)", x.uses(1), 0);
            }
        });
    }

    private static void firstFaults() {
        Edges.edge("the place of the first TOKEN that can not stand there, of two", () -> {
            fault("draught 64;cod;", 8);
            fault("cod;draught 64;", 0);
            fault("code;entry 1 10 12;", 11);
            fault("code;entry 0 10 12;", 13);
            fault("code;entry 0 9 12 0 0 0;", 15);
            fault("code;code;code;code;;", 15);
        });
        Edges.edge("at a FAULT all stays, though ITEMS ahead of it could be read", () -> {
            FanTalk x = Edges.type(Edges.full(), "code;draught 1;entry 0 1 5;x");
            Edges.stands(x, "read()", FanTalk::read, -37);
            Edges.due("count(0)", x.count(0), 3);
            Edges.due("count(1)", x.count(1), 24);
            Edges.due("count(7)", x.count(7), 63);
            x.clear();
            Edges.due("what was begun is not gone on with", x.read(), 0);
            Edges.due("count(0)", x.count(0), 0);
        });
    }

    private static void fullText() {
        Edges.edge("250 bytes are read whole", () -> {
            String text = blanks(239) + "draught 42;";
            Edges.due("count(7)", good(text, 1).count(7), 42);
            text = EIGHT + blanks(138) + "code;" + blanks(6);
            Edges.due("count(0)", good(text, 10).count(0), 2);
        });
        Edges.edge("a FAULT at the last byte of 250", () -> {
            fault(blanks(249) + "x", 249);
            fault(blanks(245) + "code;".substring(0, 4) + "!", 249);
        });
    }

    private static void whatIsRead() {
        Edges.edge("CODES that are read take the place of CODES, USES and DRAUGHTS", () -> {
            FanTalk x = Edges.full();
            Edges.due("uses(4)", x.uses(4), 48);
            Edges.type(x, "code;entry 0 2 4;draught 9;");
            Edges.due("read()", x.read(), 3);
            Edges.due("count(0)", x.count(0), 1);
            Edges.due("count(1)", x.count(1), 1);
            Edges.due("count(7)", x.count(7), 9);
            for (int word = 0; word < 10; word++) {
                Edges.due("uses(" + word + ")", x.uses(word), 0);
            }
        });
        Edges.edge("they take the place of DRAUGHTS: none that are told are none", () -> {
            FanTalk x = Edges.type(Edges.full(), "code;");
            Edges.due("read()", x.read(), 1);
            Edges.due("count(7)", x.count(7), 0);
        });
        Edges.edge("8: nothing may be undone then", () -> {
            FanTalk x = Edges.type(Edges.full(), "");
            Edges.due("count(5)", x.count(5), 6);
            Edges.due("read()", x.read(), 0);
            Edges.due("count(5)", x.count(5), 0);
            Edges.due("undo()", x.undo(), FanTalk.NO);
        });
        Edges.edge("8: nothing else is changed: THE SAYING, WANT, FACTS, THE TEXT, IMAGES, STATUS", () -> {
            FanTalk x = Edges.some();
            x.draughts(64);
            Edges.due("read()", x.read(), 3);
            Edges.due("count(2)", x.count(2), 6);
            Edges.due("count(3)", x.count(3), 2);
            Edges.due("count(4)", x.count(4), 2);
            Edges.due("count(6)", x.count(6), 27);
            Edges.status(x, 1, 0, 0);
            Edges.due("from(0)", x.from(0), 1);
            Edges.due("count(1) of an image", x.count(1), 5);
            Edges.due("read()", x.read(), 3);
        });
    }

    private static void whatStays() {
        Edges.edge("8: -10 less the FAULT: all stays; it is no BAD, no NO, no FULL", () -> {
            FanTalk x = Edges.full();
            x.clear();
            x.type('x', 1);
            long digest = x.digest();
            for (int i = 0; i < 20; i++) {
                Edges.due("read()", x.read(), -10);
            }
            Edges.status(x, 0, 0, 4);
            Edges.due("digest()", x.digest(), digest);
            Edges.due("undo()", x.undo(), 1);
        });
        Edges.edge("8: a TEXT may be mended by what comes behind it", () -> {
            FanTalk x = Edges.type(new FanTalk(), "code");
            Edges.due("read()", x.read(), -14);
            x.type(';', 1);
            Edges.due("read()", x.read(), 1);
            x.type(0x78, 1);
            Edges.due("read()", x.read(), -15);
            Edges.due("count(0)", x.count(0), 1);
        });
    }
}
