/** Promises 9 to 12: what is changed. */
final class ChangeTest {
    private static final Due due = new Due("ChangeTest");

    public static void main(String[] args) {
        alter();
        start();
        change();
        sew();
        due.close();
    }

    private static void alter() {
        HatHours x = Due.told("bonnet 5 12 3 8 0;veil 3 4 2 9 1;");
        int[] was = {1, 3, 4, 2, 9, 1};
        int[] least = {0, 1, 0, 1, 0, 0};
        int[] most = {3, 12, 23, 9, 23, 4};
        for (int what = 0; what <= 5; what++) {
            due.is("below " + what, x.alter(1, what, least[what] - 1), HatHours.BAD);
            due.is("above " + what, x.alter(1, what, most[what] + 1), HatHours.BAD);
            due.is("unchanged " + what, x.box(1, what), was[what]);
            due.is("least " + what, x.alter(1, what, least[what]), was[what]);
            due.is("most " + what, x.alter(1, what, most[what]), least[what]);
            due.is("is " + what, x.box(1, what), most[what]);
        }
        due.is("the other stays", x.box(0, 2), 12);
        due.is("what 6", x.alter(0, 6, 1), HatHours.BAD);
        due.is("what -1", x.alter(0, -1, 1), HatHours.BAD);
        due.is("box 2", x.alter(2, 0, 1), HatHours.BAD);
        due.is("box -1", x.alter(-1, 0, 1), HatHours.BAD);
    }

    private static void start() {
        HatHours x = new HatHours();
        due.is("start(24)", x.start(24), HatHours.BAD);
        due.is("start(-1)", x.start(-1), HatHours.BAD);
        due.is("start(23)", x.start(23), 6);
        due.is("start(0)", x.start(0), 23);
        due.is("rule(1)", x.rule(1), 0);
    }

    private static void change() {
        HatHours x = Due.told("bonnet 5 12 3 8 0;veil 3 4 2 9 1;toque 1 1 1 1 1;");
        due.is("alike", x.change(1, 1), HatHours.BAD);
        due.is("no such place", x.change(0, 3), HatHours.BAD);
        due.is("no such first place", x.change(3, 0), HatHours.BAD);
        due.is("below", x.change(-1, 0), HatHours.BAD);
        due.is("change(0, 2)", x.change(0, 2), 0);
        due.is("first", x.order(0, 0), 2);
        due.is("middle", x.order(1, 0), 1);
        due.is("last", x.order(2, 0), 0);
        due.is("change(1, 0)", x.change(1, 0), 1);
        due.is("first then", x.order(0, 0), 1);
        due.is("box 1 is done", x.order(0, 1), 9);
    }

    private static void sew() {
        HatHours x = new HatHours();
        due.is("kind -1", x.sew(-1, 1, 0), HatHours.BAD);
        due.is("kind 4", x.sew(4, 1, 0), HatHours.BAD);
        due.is("work 0", x.sew(0, 0, 0), HatHours.BAD);
        due.is("work 13", x.sew(0, 13, 0), HatHours.BAD);
        due.is("wanted -1", x.sew(0, 1, -1), HatHours.BAD);
        due.is("wanted 24", x.sew(0, 1, 24), HatHours.BAD);
        due.is("none came", x.rule(0), 0);
        due.is("first", x.sew(3, 12, 23), 1);
        int[] facts = {3, 12, 23, 1, 8, 0};
        for (int what = 0; what < facts.length; what++) {
            due.is("sewn fact " + what, x.box(0, what), facts[what]);
        }
        due.is("second", x.sew(0, 1, 0), 2);
        due.is("changed", x.change(0, 1), 0);
        due.is("third", x.sew(1, 2, 3), 3);
        due.is("the last of the order", x.order(2, 0), 2);
        due.is("fourth", x.sew(1, 2, 3), 4);
        due.is("fifth", x.sew(1, 2, 3), 5);
        due.is("sixth", x.sew(1, 2, 3), HatHours.FULL);
        due.is("sixth, bad", x.sew(4, 2, 3), HatHours.BAD);
        due.is("five", x.rule(0), 5);
        HatHours y = Due.told("bonnet 5 12 3 9 4;bonnet 5 12 3 9 4;");
        Due.tell(y, "");
        y.sew(1, 2, 3);
        due.is("WORTH is not what another had", y.box(0, 3), 1);
        due.is("OPENED is not what another had", y.box(0, 4), 8);
        due.is("ROOM is not what another had", y.box(0, 5), 0);
    }
}
