/** Promises 1 to 8: a new object, and the text. */
final class TextTest {
    private static final String FOUR = "bonnet 5 12 3 8 0;veil 3 4 2 9 0;toque 8 22 9 10 1;"
            + "bridal 12 6 1 7 1;order 2 0;start 20;";
    private static final Due due = new Due("TextTest");

    public static void main(String[] args) {
        newObject();
        tape();
        taken();
        tokens();
        faults();
        faultsMeetInOrder();
        refusedTextChangesNothing();
        takenTextTellsAll();
        rule();
        box();
        order();
        due.close();
    }

    private static void newObject() {
        HatHours x = new HatHours();
        due.is("new rule(0)", x.rule(0), 0);
        due.is("new rule(1)", x.rule(1), 6);
        for (int what = 2; what <= 5; what++) {
            due.is("new rule(" + what + ")", x.rule(what), 0);
        }
        due.is("new fault()", x.fault(), 0);
        due.is("new torn()", x.torn(), 0);
        due.is("new count(0)", x.count(0), 0);
        due.is("new count(1)", x.count(1), 0);
        due.is("new count(2)", x.count(2), 0);
        due.is("new count(3)", x.count(3), HatHours.NONE);
        due.is("new count(4)", x.count(4), 0);
        due.is("new box(0, 0)", x.box(0, 0), HatHours.BAD);
        for (int k = 0; k < 4; k++) {
            due.is("new lay(" + k + ")", x.lay(k, 0, 1), -11);
        }
    }

    private static void tape() {
        HatHours x = new HatHours();
        due.is("feed(-1)", x.feed(-1), HatHours.BAD);
        due.is("feed(128)", x.feed(128), HatHours.BAD);
        due.is("feed(0)", x.feed(0), 1);
        due.is("feed(127)", x.feed(127), 2);
        due.is("end(3)", x.end(3), HatHours.BAD);
        due.is("end(-1)", x.end(-1), HatHours.BAD);
        due.is("end(2)", x.end(2), 2);
        due.is("end(0)", x.end(0), 2);
        due.is("end(0) again", x.end(0), 0);
        for (int i = 1; i <= 160; i++) {
            due.is("feed " + i, x.feed(32), i);
        }
        due.is("feed 161", x.feed(32), HatHours.FULL);
        due.is("feed bad at 160", x.feed(200), HatHours.BAD);
        due.is("count(2)", x.count(2), 160);
        due.is("end(159)", x.end(159), 160);
        due.is("feed at 159", x.feed(65), 160);
        due.is("text of blanks and A", x.text(), -169);
        due.is("its fault", x.fault(), 1);
        due.is("tape is empty then", x.count(2), 0);
        Due.feed(x, "start 7;veil");
        due.is("end(8)", x.end(8), 12);
        due.is("what was kept", x.text(), 1);
        due.is("START of it", x.rule(1), 7);
    }

    private static void taken() {
        due.is("nothing", Due.tell(new HatHours(), ""), 0);
        due.is("blanks", Due.tell(new HatHours(), "   "), 0);
        due.is("order;", Due.tell(new HatHours(), "order;"), 1);
        due.is("four", Due.tell(new HatHours(), FOUR), 6);
        due.is("no blanks", Due.tell(new HatHours(), "start9;order;"), 2);
        due.is("blanks all over", Due.tell(new HatHours(), "  start   09  ;  order  ;  "), 2);
        due.is("order ahead of its boxes", Due.tell(new HatHours(), "order 1 0;veil 1 0 1 0 0;veil 1 0 1 0 0;"), 3);
        due.is("least of each", Due.tell(new HatHours(), "bonnet 1 0 1 0 0;"), 1);
        due.is("most of each", Due.tell(new HatHours(), "bridal 12 23 9 23 4;start 23;"), 2);
        HatHours x = Due.told("toque 12 23 9 23 4;");
        int[] facts = {2, 12, 23, 9, 23, 4};
        for (int what = 0; what < facts.length; what++) {
            due.is("told fact " + what, x.box(0, what), facts[what]);
        }
        HatHours y = Due.told("veil 1 0 1 0 0;veil 2 0 1 0 0;veil 3 0 1 0 0;veil 4 0 1 0 0;veil 5 0 1 0 0;order 3 1;");
        int[] places = {3, 1, 0, 2, 4};
        for (int i = 0; i < places.length; i++) {
            due.is("place " + i, y.order(i, 0), places[i]);
        }
    }

    private static void faulty(String text, int fault, int place) {
        HatHours x = new HatHours();
        due.is("'" + text + "'", Due.tell(x, text), -10 - place);
        due.is("'" + text + "' fault", x.fault(), fault);
    }

    private static void tokens() {
        faulty("start 123;", 1, 6);
        faulty("start 007;", 1, 6);
        faulty("start 7,", 1, 7);
        faulty("Start 7;", 1, 0);
        faulty("sTart 7;", 2, 0);
        faulty("start\t7;", 1, 5);
        faulty("  123", 1, 2);
        faulty("start -1;", 1, 6);
        faulty("start `;", 1, 6);
        faulty("start {;", 1, 6);
        faulty("start /;", 1, 6);
        faulty("start :;", 1, 6);
        faulty("start 7;" + (char) 0, 1, 8);
    }

    private static void faults() {
        faulty("bonnets 1 1 1 1 1;", 2, 0);
        faulty("bonne 1 1 1 1 1;", 2, 0);
        faulty("veilz 1 1 1 1 1;", 2, 0);
        faulty("aveil 1 1 1 1 1;", 2, 0);
        faulty("xonnet 1 1 1 1 1;", 2, 0);
        faulty("tart 1;", 2, 0);
        faulty(";", 2, 0);
        faulty("start 7;;", 2, 8);
        faulty("7", 2, 0);
        faulty("start", 2, 5);
        faulty("start  ", 2, 7);
        faulty("start 7", 2, 7);
        faulty("start 7 ", 2, 8);
        faulty("start 7 8;", 2, 8);
        faulty("start ;", 2, 6);
        faulty("start veil;", 2, 6);
        faulty("veil 1 1 1 1 1", 2, 14);
        faulty("veil 1 1 1 1 1 1;", 2, 15);
        faulty("veil 1 1 1 1;", 2, 12);
        faulty("order 0 order;", 2, 8);
        faulty("order 0", 2, 7);
        faulty("veil 0 1 1 1 1;", 3, 5);
        faulty("veil 13 1 1 1 1;", 3, 5);
        faulty("veil 1 24 1 1 1;", 3, 7);
        faulty("veil 1 1 0 1 1;", 3, 9);
        faulty("veil 1 1 10 1 1;", 3, 9);
        faulty("veil 1 1 1 24 1;", 3, 11);
        faulty("veil 1 1 1 1 5;", 3, 13);
        faulty("start 24;", 3, 6);
        faulty("order 5;", 3, 6);
        faulty("start 7;start 8;", 4, 8);
        faulty("order;order;", 4, 6);
        faulty("order 0 0;", 4, 8);
        faulty("order 4 3 2 1 0 2;", 4, 16);
        String five = "veil 1 1 1 1 1;veil 1 1 1 1 1;veil 1 1 1 1 1;veil 1 1 1 1 1;veil 1 1 1 1 1;";
        due.is("five", Due.tell(new HatHours(), five), 5);
        faulty(five + " toque 1 1 1 1 1;", 5, 76);
        faulty("order 0;", 6, 8);
        faulty("veil 1 1 1 1 1;order 0 1;  ", 6, 27);
    }

    private static void faultsMeetInOrder() {
        faulty("veil 13 @", 3, 5);
        faulty("veil @ 13", 1, 5);
        faulty("start 7;start @", 4, 8);
        faulty("order 5 @;", 3, 6);
        faulty("order 1 0; ,", 1, 11);
        faulty("order 4;start 24;", 3, 14);
        faulty("veils @", 2, 0);
        String five = "veil 1 1 1 1 1;veil 1 1 1 1 1;veil 1 1 1 1 1;veil 1 1 1 1 1;veil 1 1 1 1 1;";
        faulty(five + "veil@", 5, 75);
        faulty("order 4 123", 1, 8);
    }

    private static void refusedTextChangesNothing() {
        HatHours x = Due.told(FOUR);
        x.see(0, 8, 9);
        x.keep(1);
        due.is("refused", Due.tell(x, "veil 1 1 1 1 1;start 9;order 1;"), -41);
        due.is("fault()", x.fault(), 6);
        due.is("boxes stay", x.rule(0), 4);
        due.is("START stays", x.rule(1), 20);
        due.is("order stays", x.order(0, 0), 2);
        due.is("SEEN stays", x.count(0), 1);
        due.is("images stay", x.count(1), 1);
        due.is("tape is empty", x.count(2), 0);
        due.is("taken", Due.tell(x, "start 9;"), 1);
        due.is("fault() is gone", x.fault(), 0);
    }

    private static void takenTextTellsAll() {
        HatHours x = Due.told(FOUR);
        x.see(0, 8, 9);
        x.keep(0);
        x.keep(1);
        x.sheet(0, 1, 7);
        due.is("one line", Due.tell(x, "veil 2 3 4 5 1;"), 1);
        due.is("boxes anew", x.rule(0), 1);
        due.is("START anew", x.rule(1), 6);
        due.is("order anew", x.order(0, 0), 0);
        due.is("nothing is SEEN", x.count(0), 0);
        due.is("images are gone", x.count(1), 0);
        due.is("back(0)", x.back(0), HatHours.STATE);
        due.is("sheets stay", x.count(3), 7);
        due.is("empty text", Due.tell(x, ""), 0);
        due.is("no boxes", x.rule(0), 0);
    }

    private static void rule() {
        HatHours x = Due.told(FOUR);
        int[] answers = {4, 20, 28, 85, 5, 12};
        for (int what = 0; what < answers.length; what++) {
            due.is("rule(" + what + ")", x.rule(what), answers[what]);
        }
        due.is("rule(-1)", x.rule(-1), HatHours.BAD);
        due.is("rule(6)", x.rule(6), HatHours.BAD);
        // A veil done at 2, out in the hours 5 and 6: it is 2 and 3 o'clock, and 5 is no hour for yawns.
        HatHours y = Due.told("veil 2 2 1 5 3;start 0;");
        due.is("one yawn", y.rule(4), 1);
        due.is("two strange hours", y.rule(5), 2);
        // It lets out the very hour: nothing is strange.
        HatHours z = Due.told("bridal 2 2 1 8 3;start 6;");
        due.is("nothing strange", z.rule(5), 0);
        due.is("no yawns", z.rule(4), 0);
    }

    private static void box() {
        HatHours x = Due.told(FOUR);
        int[] lasts = {4, 2, 3, 8};
        int[] own = {9, 12, 4, 0};
        int[] wrong = {9, 16, 54, 6};
        int[] place = {1, 2, 0, 3};
        for (int b = 0; b < 4; b++) {
            due.is("kind of " + b, x.box(b, 0), b);
            due.is("lasts of " + b, x.box(b, 6), lasts[b]);
            due.is("own hour of " + b, x.box(b, 7), own[b]);
            due.is("wrong of " + b, x.box(b, 8), wrong[b]);
            due.is("place of " + b, x.box(b, 9), place[b]);
        }
        due.is("box(4, 0)", x.box(4, 0), HatHours.BAD);
        due.is("box(-1, 0)", x.box(-1, 0), HatHours.BAD);
        due.is("box(0, -1)", x.box(0, -1), HatHours.BAD);
        due.is("box(0, 10)", x.box(0, 10), HatHours.BAD);
        HatHours far = Due.told("veil 1 19 9 0 0;");
        due.is("twelve apart", far.box(0, 8), 108);
        HatHours near = Due.told("veil 1 1 1 0 0;start 22;");
        due.is("the shorter way", near.box(0, 8), 2);
    }

    private static void order() {
        HatHours x = Due.told(FOUR);
        int[] boxes = {2, 0, 1, 3};
        int[] done = {28, 33, 36, 48};
        for (int i = 0; i < 4; i++) {
            due.is("order(" + i + ", 0)", x.order(i, 0), boxes[i]);
            due.is("order(" + i + ", 1)", x.order(i, 1), done[i]);
        }
        due.is("order(4, 0)", x.order(4, 0), HatHours.BAD);
        due.is("order(-1, 0)", x.order(-1, 0), HatHours.BAD);
        due.is("order(0, 2)", x.order(0, 2), HatHours.BAD);
        due.is("order(0, -1)", x.order(0, -1), HatHours.BAD);
    }
}
