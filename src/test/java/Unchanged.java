import java.util.function.Consumer;
import java.util.function.Function;
import java.util.function.Supplier;

/**
 * That a call changes nothing: of two objects made alike one is asked for it, and all that can be seen of both is
 * alike then: what stands, what undo() brings back, what SLOTS hold, what is on the tape. Each of these is looked at on
 * objects of their own, so that none is used for more than 512 calls.
 */
final class Unchanged {
    /** Three HEIRS, two WATERS; 8, 5 and 2 come each week, of 40 at most. */
    static final String TEXT = "water a 3 1; water b 5 2; heir x 2 4 3 9; heir y 3 1 1 50; heir z 4 2 0 7; sends x a = 5 + share;"
        + "sends y b = 5; sends x b = 1; sends z a = 2 * week - 2; dry = 2; basin 40; seed 33; claim c = 1 of 3 x + 2 of 7 y;"
        + "claim d = 4 of 5 z;";

    private Unchanged() { }

    /** An object in which all is in use: things done, all but one SLOT, levels TOLD, a text on the tape. */
    static ThimbleSea busy() {
        ThimbleSea sea = Check.sea(TEXT);
        sea.run(2);
        sea.hold(0);
        sea.split(0, 2, 1, 3);
        sea.spoon(4);
        sea.merge(1, 0);
        sea.run(2);
        sea.hold(2);
        sea.run(1);
        sea.tell(1, 24);
        sea.tell(0, 11);
        sea.tell(2, 6);
        Check.feed(sea, "basin 77; heir q 5 6 7 8; dry = 3; seed 9;");
        return sea;
    }

    /** Of the busy object and of a new one. */
    static void by(Check c, String call, Consumer<ThimbleSea> asked) {
        by(c, call, Unchanged::busy, asked);
        by(c, call + " of a new object", ThimbleSea::new, asked);
    }

    static void by(Check c, String call, Supplier<ThimbleSea> making, Consumer<ThimbleSea> asked) {
        looked(c, call + ", what stands", making, asked, Unchanged::shown);
        looked(c, call + ", what is undone", making, asked, Unchanged::undone);
        for (int slot = 0; slot < 3; slot++) {
            int of = slot;
            looked(c, call + ", what slot " + slot + " holds", making, asked, sea -> "" + sea.restore(of) + shown(sea));
        }
        looked(c, call + ", what is on the tape", making, asked, sea -> "" + sea.read() + " " + sea.place() + shown(sea));
    }

    private static void looked(Check c, String call, Supplier<ThimbleSea> making, Consumer<ThimbleSea> asked,
        Function<ThimbleSea, String> look) {
        ThimbleSea sea = making.get();
        asked.accept(sea);
        c.alike(call, look.apply(sea), look.apply(making.get()));
    }

    private static String undone(ThimbleSea sea) {
        StringBuilder all = new StringBuilder();
        for (int i = 0; i < 30; i++) {
            all.append(" undo ").append(sea.undo()).append(' ').append(sea.count(4)).append(' ').append(sea.count(9)).append(' ')
                .append(sea.salt()).append(' ').append(sea.drops(0, 0)).append(' ').append(sea.drops(-1, 1)).append(' ')
                .append(sea.heir(0, 2)).append(' ').append(sea.heir(2, 0)).append(' ').append(sea.count(7));
        }
        return all.toString();
    }

    /** All that can be asked for without changing anything. */
    static String shown(ThimbleSea sea) {
        StringBuilder all = new StringBuilder();
        for (int what = 0; what <= 12; what++) {
            all.append(" count ").append(what).append(": ").append(sea.count(what));
        }
        all.append(" place ").append(sea.place()).append(" salt ").append(sea.salt());
        for (int heir = 0; heir < 4; heir++) {
            for (int what = 0; what <= 5; what++) {
                all.append(" heir ").append(heir).append(' ').append(what).append(": ").append(sea.heir(heir, what));
            }
            for (int water = -1; water <= 2; water++) {
                all.append(" drops ").append(heir).append(' ').append(water).append(": ").append(sea.drops(heir, water));
            }
            all.append(" owns ").append(sea.owns(heir, false)).append('/').append(sea.owns(heir, true));
            all.append(" ranked ").append(sea.ranked(heir)).append(" power ").append(sea.power(heir));
            all.append(" without ").append(sea.without(heir, 2, -1)).append(' ').append(sea.without(heir, 1, 0));
            all.append(" gives ").append(sea.gives(12, heir));
            all.append(" claim ").append(sea.claim(heir, false)).append('/').append(sea.claim(heir, true));
            all.append(" tells ").append(sea.tells(heir));
            all.append(" forged ").append(sea.forged(heir)).append(" explains ").append(sea.explains(heir, -1)).append(' ')
                .append(sea.explains(heir, 0));
        }
        all.append(" enough ").append(sea.enough(20)).append(' ').append(sea.enough(39)).append(" salty ").append(sea.salty(4500));
        all.append(" crossed ").append(sea.crossed(1, 2, 0)).append(' ').append(sea.crossed(1, 2, 1)).append(" league ").append(sea.league());
        all.append(" asked ").append(sea.asked(12, 0)).append(' ').append(sea.asked(12, 1));
        all.append(" thimble ").append(sea.thimble(4, 14, 5)).append(' ').append(sea.surely(4, 14, 5)).append(' ')
            .append(sea.firstRow(4, 14, 5, 0));
        return all.toString();
    }
}
