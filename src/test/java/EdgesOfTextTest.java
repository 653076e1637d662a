import java.util.Arrays;

/** Terms TEXT, TOKENS, the TEXT of SHEETS, FAULTS. What an EXPR is has a file of its own. */
public final class EdgesOfTextTest {
    private static final String MAN = "person sight 10 joint 20 touch 100 leans 500;";

    private static String padded(String text, int length) {
        return text + " ".repeat(length - text.length());
    }

    private static byte[] bytes(String before, int b, String behind) {
        byte[] bytes = (before + " " + behind).getBytes(java.nio.charset.StandardCharsets.ISO_8859_1);
        bytes[before.length()] = (byte) b;
        return bytes;
    }

    /** What a HOUSE of these bytes answers: 0, or the FAULT by 1000 and its place. */
    private static int answer(byte[] text) {
        RubberHall x = new RubberHall();
        int fault = x.house(Check.feed(x, text));
        Check.due("the FAULT's place is told if there is one", x.fault() >= 0, fault != 0);
        return fault == 0 ? 0 : 1000 * fault + x.fault();
    }

    private static void texts() {
        Check.edge("Term TEXT: 700 bytes are read to the last", () -> {
            RubberHall x = Check.hall(padded("line felt;", 690) + "line said;");
            Check.due("LINES", x.count(3), 2);
            Check.due("the last", x.isSaid(1), true);
        });
        Check.edge("Term TEXT: a FAULT at the last of 700 bytes", () -> Refusal.house(padded("line felt;", 699) + "x", 1, 699));
        Check.edge("Term TEXT: 700 bytes that end too soon", () -> Refusal.house(padded("line felt;line said", 700), 1, 700));
        Check.edge("Term TEXT: 700 bytes of one word, of one NUMBER", () -> {
            Refusal.house("a".repeat(700), 1, 0);
            Refusal.house("off " + "z".repeat(696), 3, 4);
            Refusal.house("off " + "9".repeat(696), 2, 4);
            Refusal.house("off " + "0".repeat(696), 2, 4);
        });
        Check.edge("Term TEXT: 700 bytes of one EXPR", () -> {
            RubberHall x = Check.hall("off " + "1+".repeat(347) + "1;");
            Check.due("RULES", x.count(4), 1);
            Check.due("the same with its last TOKEN missing", Check.house(x, "off " + "1+".repeat(348)), 1);
            Check.due("its place", x.fault(), 700);
        });
        Check.edge("Term TEXT: 700 bytes of SHEETS", () -> {
            RubberHall x = Check.hall(MAN + "sitting far 1;");
            Check.due("60 come", Check.sheets(x, padded("sheet 0 0;".repeat(59), 690) + "sheet 0 0;"), 60);
        });
        Check.edge("Term TEXT: what is behind its n bytes isn't read", () -> {
            RubberHall x = new RubberHall();
            Check.feed(x, "line felt;line said;");
            Check.due("house(10)", x.house(10), 0);
            Check.due("LINES", x.count(3), 1);
            Check.feed(x, "line said;line said;");
            Check.due("house(9)", x.house(9), 1);
            Check.due("its place", x.fault(), 9);
            // a word and a NUMBER that go on behind them
            Check.feed(x, "off startled;");
            Check.due("house(9)", x.house(9), 1);
            Check.due("'start' is a PART, then it ends", x.fault(), 9);
            Check.feed(x, "off 99999;");
            Check.due("house(8)", x.house(8), 1);
            Check.due("9999 is a PART, then it ends", x.fault(), 8);
        });
    }

    private static void blanks() {
        Check.edge("Term TOKENS: blanks are 32 and 10; no other byte behind a CLAUSE counts for nothing", () -> {
            for (int b = 0; b < 256; b++) {
                Check.due("byte " + b, answer(bytes("line felt;", b, "line said;")), b == 32 || b == 10 ? 0 : 1010);
            }
        });
        Check.edge("Term TOKENS: blanks between them count for nothing, as many as there are, or none", () -> {
            Check.hall("person\n\n \nsight  1joint1touch\n1leans0\n;\n\nline\nfelt ; off(1);off\n\n1+ 1 ;");
            Check.hall("off(felt+1)*2<said or not(1)and 1;");
        });
        Check.edge("Term TOKENS: blanks part words and NUMBERS", () -> {
            Refusal.house("li ne felt;", 1, 0);
            Refusal.house("line fe lt;", 1, 5);
            Refusal.house("line fe\nlt;", 1, 5);
            Refusal.house("sitting far 1 0;", 1, 14);
            Refusal.house("sitting far 1\n0;", 1, 14);
            Refusal.house("off 1 0;", 1, 6);
        });
        Check.edge("Term TOKENS: blanks ahead of a TOKEN are not of it, those behind the last are of the text's length", () -> {
            Refusal.house("  \n x", 1, 4);
            Refusal.house("line  \n  x", 1, 9);
            Refusal.house("line  \n  ", 1, 9);
        });
    }

    private static void tokens() {
        Check.edge("Term TOKENS: a word is the longest row of a .. z", () -> {
            Refusal.house("linefelt;", 1, 0);
            Refusal.house("line felts;", 1, 5);
            Refusal.house("line xfelt;", 1, 5);
            Refusal.house("off feltsaid;", 3, 4);
            Refusal.house("off notfelt;", 3, 4);
            Refusal.house("off 1 ornot 1;", 1, 6);
        });
        Check.edge("Term TOKENS: words and NUMBERS side by side need no blank", () -> {
            Check.hall("person sight1joint2touch3leans4yes5wish6;sitting far7late8strokes9;");
            Check.hall("off 1or 2and 3;");
            Check.hall("off 1and not 0;");
            RubberHall x = Check.hall(MAN + "sitting far 1;line felt;");
            Check.due("sheets", Check.sheets(x, "sheet0 0 6shown less7start8slow9cold less1;"), 1);
        });
        Check.edge("Term TOKENS: NUMBERS have 1 to 4 digits, of 5 or more are FAULT 2", () -> {
            RubberHall x = Check.hall("sitting far 7;sitting far 07;sitting far 007;sitting far 0007;off 9999;off 0000;");
            for (int i = 0; i < 4; i++) {
                Check.due("FAR of " + i, x.sitting(i, 0), 7);
            }
            Refusal.house("sitting far 00007;", 2, 12);
            Refusal.house("sitting far 10000;", 2, 12);
            Refusal.house("off 10000;", 2, 4);
            Refusal.house("off 00000;", 2, 4);
        });
        Check.edge("Term TOKENS: NUMBERS that an int wraps into their bounds are FAULT 2", () -> {
            // 2 to the 32nd and 1, 2 to the 64th and 1, twice 2 to the 31st
            Refusal.house("sitting far 4294967297;", 2, 12);
            Refusal.house("sitting far 18446744073709551617;", 2, 12);
            Refusal.house("off 2147483648;", 2, 4);
            Refusal.sheets("sheet 4294967296 0;", 2, 6);
        });
        Check.edge("Term TOKENS: what may stand for the ';' of a CLAUSE, of all 256 bytes", () -> {
            for (int b = 0; b < 256; b++) {
                boolean letter = b >= 'a' && b <= 'z';
                boolean blank = b == 32 || b == 10;
                Check.due("byte " + b, answer(bytes("line felt", b, "")), b == ';' ? 0 : letter ? 1005 : blank ? 1010 : 1009);
            }
        });
        Check.edge("Term TOKENS: what may stand between two NUMBERS of an EXPR, of all 256 bytes", () -> {
            for (int b = 0; b < 256; b++) {
                boolean fits = b >= '0' && b <= '9' || b != 0 && "+-*/<=".indexOf(b) >= 0;
                boolean parts = b == 32 || b == 10 || b == ';';
                Check.due("byte " + b, answer(bytes("off 1", b, "1;")), fits ? 0 : parts ? 1006 : 1005);
            }
        });
        Check.edge("Term TOKENS: what may stand for a PART, of all 256 bytes", () -> {
            for (int b = 0; b < 256; b++) {
                boolean digit = b >= '0' && b <= '9';
                boolean letter = b >= 'a' && b <= 'z';
                boolean behind = b == 32 || b == 10 || b == '(';
                Check.due("byte " + b, answer(bytes("off ", b, ";")), digit ? 0 : letter ? 3004 : behind ? 1005 : 1004);
            }
        });
        Check.edge("Term TOKENS: what may stand within a word, of all 256 bytes", () -> {
            for (int b = 0; b < 256; b++) {
                // 'fe' alone is no word of a LINE, 'ine' begins no CLAUSE
                Check.due("byte " + b, answer(bytes("line fe", b, "t;")), b == 'l' ? 0 : 1005);
                int ahead = b == 32 || b == 10 ? 1001 : 1000;
                Check.due("byte " + b + " ahead", answer(bytes("", b, "ine felt;")), b == 'l' ? 0 : ahead);
            }
        });
    }

    private static void faults() {
        Check.edge("Term FAULTS: the first along the text", () -> {
            Refusal.house("line felt;line;line fel;", 1, 14);
            Refusal.house("off foo;line;", 3, 4);
            Refusal.house("off 10000 foo", 2, 4);
            Refusal.house("line felt;sitting far 1000 A", 2, 22);
            Refusal.sheets("sheet 2 9;", 4, 6);
            Refusal.sheets("sheet 0 9 7;foo", 4, 8);
            Refusal.sheets("sheet 0 0 7 9 9 9", 2, 10);
        });
        Check.edge("Term FAULTS: at a TOKEN's first byte", () -> {
            Refusal.house("  linen", 1, 2);
            Refusal.house("sitting far    1000;", 2, 15);
            Refusal.house("off \n unknown;", 3, 6);
            Refusal.sheets("sheet   20 0;", 4, 8);
            Refusal.sheets("  sheets 0 0;", 1, 2);
        });
        Check.edge("Term FAULTS: at the text's length, where it ends too soon", () -> {
            Refusal.house("l", 1, 0);
            Refusal.house("line", 1, 4);
            Refusal.house("off (", 1, 5);
            Refusal.house("off 1+", 1, 6);
            Refusal.house("off not", 1, 7);
            Refusal.sheets("sheet", 1, 5);
            Refusal.sheets("sheet 0 0", 1, 9);
        });
        Check.edge("Term FAULTS: of one TOKEN the least: one that can't stand there and has 5 digits is 1", () -> {
            Refusal.house("12345", 1, 0);
            Refusal.house("line 12345;", 1, 5);
            Refusal.house("off 1 12345;", 1, 6);
            Refusal.sheets("sheet 0 0 shown 1 12345;", 1, 18);
        });
        Check.edge("Term FAULTS: of one TOKEN the least: 2 ahead of 4", () -> {
            Refusal.sheets("sheet 10000 0;", 2, 6);
            Refusal.sheets("sheet 0 10000;", 2, 8);
            Refusal.sheets("sheet 0 0 0 0 7;", 2, 14);
            Refusal.sheets("sheet 0 0 0 0 00000;", 2, 14);
        });
        Check.edge("Term FAULTS: of one TOKEN the least: 2 ahead of 3", () -> {
            Refusal.house("off ((((((foo", 2, 10);
            Refusal.house("off ((((((or", 2, 10);
        });
        Check.edge("Term FAULTS: 1 a TOKEN that is none", () -> {
            Refusal.house("A", 1, 0);
            Refusal.house("line felt,", 1, 9);
            Refusal.house("line Felt;", 1, 5);
            Refusal.house("off ?;", 1, 4);
            Refusal.sheets("sheet 0 0.", 1, 9);
            Refusal.sheets("sheet 0 0\t;", 1, 9);
        });
        Check.edge("Term FAULTS: 2 not as told, at the NUMBER, not where it is as told", () -> {
            Refusal.house(MAN + "sitting far 999 late 2001;", 2, MAN.length() + 21);
            Refusal.sheets("sheet 0 0 0 7;", 2, 12);
        });
    }

    private static RubberHall hall(int people, int sittings, int lines) {
        return Check.hall("person sight1joint1touch1leans0;".repeat(people) + "sitting far1;".repeat(sittings)
            + "line felt;".repeat(lines));
    }

    private static void sheetOf(String text, int what, int due) {
        RubberHall x = hall(1, 1, 2);
        Check.due("sheets of " + text, Check.sheets(x, text), 1);
        Check.due("value " + what + " of " + text, x.value(0, what), due);
    }

    private static void bounds(String word, int what, int most, boolean less) {
        String term = "Term TEXT of SHEETS: " + word;
        String before = "sheet 0 0 " + word + " ";
        Check.edge(term + " 0", () -> sheetOf(before + "0;", what, 0));
        Check.edge(term + " " + most + ", the most", () -> sheetOf(before + most + ";", what, most));
        Check.edge(term + " " + (most + 1) + " is FAULT 2", () -> Refusal.sheets(before + (most + 1) + ";", 2, before.length()));
        Check.edge(term + " without a NUMBER is FAULT 1", () -> Refusal.sheets(before + ";", 1, before.length()));
        if (less) {
            Check.edge(term + " less 0 and less 1", () -> {
                sheetOf(before + "less 0;", what, 0);
                sheetOf(before + "less 1;", what, -1);
            });
            Check.edge(term + " less " + most + ", the least", () -> sheetOf(before + "less " + most + ";", what, -most));
            Check.edge(term + " less " + (most + 1) + " is FAULT 2",
                () -> Refusal.sheets(before + "less " + (most + 1) + ";", 2, before.length() + 5));
            Check.edge(term + " less without a NUMBER, less twice are FAULT 1", () -> {
                Refusal.sheets(before + "less;", 1, before.length() + 4);
                Refusal.sheets(before + "less less 1;", 1, before.length() + 5);
            });
        } else {
            Check.edge(term + " has no 'less'", () -> Refusal.sheets(before + "less 1;", 1, before.length()));
        }
    }

    private static void sheetBounds() {
        bounds("shown", 20, 999, true);
        bounds("start", 21, 100, false);
        bounds("slow", 22, 601, false);
        bounds("cold", 23, 50, true);
        Check.edge("Term TEXT of SHEETS: below 0 can't be written by a sign", () -> {
            Refusal.sheets("sheet 0 0 shown -1;", 1, 16);
            Refusal.sheets("sheet -1 0;", 1, 6);
            Refusal.sheets("sheet 0 0 -1;", 1, 10);
        });
        Check.edge("Term TEXT of SHEETS: without them 0, COLD not looked for", () -> {
            RubberHall x = hall(1, 1, 2);
            Check.due("sheets", Check.sheets(x, "sheet 0 0 6 6 shown 5 start 5 slow 5 cold 5;sheet 0 0;"), 2);
            int[][] due = {{0, 0}, {1, 0}, {20, 0}, {21, 0}, {22, 0}, {23, 100}};
            for (int[] d : due) {
                Check.due("value(1, " + d[0] + ")", x.value(1, d[0]), d[1]);
            }
        });
        Check.edge("Term TEXT of SHEETS: each of what may stand, alone", () -> {
            String[] alone = {"shown 1", "start 1", "slow 1", "cold 1"};
            for (int i = 0; i < 4; i++) {
                RubberHall x = hall(1, 1, 0);
                Check.due("sheet of " + alone[i], Check.sheets(x, "sheet 0 0 " + alone[i] + ";"), 1);
                for (int j = 0; j < 4; j++) {
                    Check.due(alone[i] + ", value " + (20 + j), x.value(0, 20 + j), i == j ? 1 : j == 3 ? 100 : 0);
                }
            }
        });
        Check.edge("Term TEXT of SHEETS: what may stand stands in its order alone, and once", () -> {
            Refusal.sheets("sheet 0 0 start 1 shown 1;", 1, 18);
            Refusal.sheets("sheet 0 0 slow 1 start 1;", 1, 17);
            Refusal.sheets("sheet 0 0 cold 1 slow 1;", 1, 17);
            Refusal.sheets("sheet 0 0 shown 1 6;", 1, 18);
            Refusal.sheets("sheet 0 0 shown 1 shown 1;", 1, 18);
            Refusal.sheets("sheet 0 0 start 1 start 1;", 1, 18);
            Refusal.sheets("sheet 0 0 slow 1 slow 1;", 1, 17);
            Refusal.sheets("sheet 0 0 cold 1 cold 1;", 1, 17);
            Refusal.sheets("sheet 0 0;;", 1, 10);
        });
    }

    private static void answers() {
        Check.edge("Term TEXT of SHEETS: answers 0 to 6, 3 less", () -> {
            RubberHall x = hall(1, 1, 12);
            Check.due("sheets", Check.sheets(x, "sheet 0 0 0 1 2 3 4 5 6;"), 1);
            for (int i = 0; i < 12; i++) {
                Check.due("answer to LINE " + i, x.value(0, i), i < 7 ? i - 3 : 0);
            }
        });
        Check.edge("Term TEXT of SHEETS: an answer of 7 is FAULT 2", () -> {
            Refusal.sheets("sheet 0 0 7;", 2, 10);
            Refusal.sheets("sheet 0 0 0 7;", 2, 12);
        });
        Check.edge("Term TEXT of SHEETS: no answers, fewer, as many as LINES", () -> {
            for (int many = 0; many <= 3; many++) {
                RubberHall x = hall(1, 1, 3);
                Check.due(many + " answers", Check.sheets(x, "sheet 0 0" + " 5".repeat(many) + " shown 1;"), 1);
                for (int i = 0; i < 3; i++) {
                    Check.due("answer to LINE " + i + " of " + many, x.value(0, i), i < many ? 2 : 0);
                }
            }
        });
        Check.edge("Term TEXT of SHEETS: an answer more than there are LINES is FAULT 4 at it", () -> {
            Refusal.sheets("sheet 0 0 1 1 1;", 4, 14);
            Refusal.sheets("sheet 0 0 1 1 6 7 shown 5;", 4, 14);
            for (int lines : new int[] {0, 1, 11, 12}) {
                RubberHall x = hall(1, 1, lines);
                Check.due("of " + lines + " LINES", Check.sheets(x, "sheet 0 0" + " 0".repeat(lines + 1) + ";"), -5);
                Check.due("its place", x.fault(), 10 + 2 * lines);
                Check.due("as many", Check.sheets(x, "sheet 0 0" + " 0".repeat(lines) + ";"), 1);
            }
        });
        Check.edge("Term TEXT of SHEETS: a PERSON that there isn't is FAULT 4", () -> {
            Refusal.sheets("sheet 2 0;", 4, 6);
            Refusal.sheets("sheet 9999 0;", 4, 6);
            for (int people : new int[] {0, 1, 19, 20}) {
                RubberHall x = hall(people, 1, 0);
                Check.due("of " + people, Check.sheets(x, "sheet " + people + " 0;"), -5);
                Check.due("its place", x.fault(), 6);
                if (people > 0) {
                    Check.due("the last", Check.sheets(x, "sheet " + (people - 1) + " 0;"), 1);
                    Check.due("it is of the last", x.value(0, 30), people - 1);
                }
            }
        });
        Check.edge("Term TEXT of SHEETS: a SITTING that there isn't is FAULT 4", () -> {
            Refusal.sheets("sheet 0 3;", 4, 8);
            Refusal.sheets("sheet 0 9999;", 4, 8);
            for (int sittings : new int[] {0, 1, 19, 20}) {
                RubberHall x = hall(1, sittings, 0);
                Check.due("of " + sittings, Check.sheets(x, "sheet 0 " + sittings + ";"), -5);
                Check.due("its place", x.fault(), 8);
                if (sittings > 0) {
                    Check.due("the last", Check.sheets(x, "sheet 0 " + (sittings - 1) + ";"), 1);
                    Check.due("it is of the last", x.value(0, 31), sittings - 1);
                }
            }
        });
    }

    private static void manySheets() {
        Check.edge("Term TEXT of SHEETS: none", () -> {
            RubberHall x = hall(1, 1, 0);
            for (String text : new String[] {"", " \n"}) {
                Check.due("how many came", Check.sheets(x, text), 0);
                Check.due("fault", x.fault(), RubberHall.NONE);
            }
            Check.due("SHEETS", x.count(5), 0);
        });
        Check.edge("Term TEXT of SHEETS: 60, as many as there may be, in one TEXT", () -> {
            RubberHall x = hall(1, 1, 0);
            Check.due("how many came", Check.sheets(x, "sheet 0 0;".repeat(60)), 60);
            Check.due("SHEETS", x.count(5), 60);
        });
        Check.edge("Term TEXT of SHEETS: the first TOKEN of the 61st is FAULT 2, none came", () -> {
            RubberHall x = hall(1, 1, 0);
            Check.due("61 in one TEXT", Check.sheets(x, "sheet 0 0;".repeat(60) + "sheet"), -3);
            Check.due("its place", x.fault(), 600);
            Check.due("none came", x.count(5), 0);
            Check.due("59", Check.sheets(x, "sheet 0 0;".repeat(59)), 59);
            Check.due("two more", Check.sheets(x, "sheet 0 0; sheet 0 0;"), -3);
            Check.due("its place", x.fault(), 11);
            Check.due("none came", x.count(5), 59);
            Check.due("the 60th", Check.sheets(x, "sheet 0 0;"), 1);
            Check.due("one more, whose TOKENS are wrong, too", Check.sheets(x, "sheet 9 9 9;"), -3);
            Check.due("its place", x.fault(), 0);
            Check.due("none at 60", Check.sheets(x, ""), 0);
            Check.due("another word at 60", Check.sheets(x, "sheets"), -2);
            Check.due("SHEETS", x.count(5), 60);
        });
        Check.edge("Term TEXT of SHEETS: FAULT 1 at the text's length where it ends too soon, behind each TOKEN", () -> {
            String[] tokens = "sheet 1 2 6 0 shown less 7 start 8 slow 9 cold less 1 ;".split(" ");
            for (int i = 1; i < tokens.length; i++) {
                String text = String.join(" ", Arrays.copyOf(tokens, i));
                Refusal.sheets(text, 1, text.length());
                Refusal.sheets("sheet 0 0;" + text + "\n", 1, text.length() + 11);
            }
        });
        Check.edge("Term TEXT of SHEETS: without its PERSON, SITTING, ';' FAULT 1 at the next", () -> {
            Refusal.sheets("sheet;", 1, 5);
            Refusal.sheets("sheet shown 1;", 1, 6);
            Refusal.sheets("sheet 0;", 1, 7);
            Refusal.sheets("sheet 0 shown 1;", 1, 8);
            Refusal.sheets("sheet 0 0 sheet 0 0;", 1, 10);
            Refusal.sheets("0 0;", 1, 0);
            Refusal.sheets(";", 1, 0);
            Refusal.sheets("line felt;", 1, 0);
        });
    }

    public static void main(String[] args) {
        texts();
        blanks();
        tokens();
        faults();
        sheetBounds();
        answers();
        manySheets();
        Check.end("EdgesOfTextTest");
    }
}
