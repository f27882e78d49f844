import java.nio.ByteBuffer;
import java.nio.charset.StandardCharsets;
import java.util.Arrays;

public final class ReadmeExample {
    public static void main(String[] args) {
        ListedGoods x = new ListedGoods();
        String house = "person 500 300; person 0 0; good 0 200 0; good 0 90 2; part 0 1 3; claim 1 700 900;"
                + " debt 0 120 100; debt 0 60 300; fee 0 10;";
        feed(x, house);
        System.out.println("goods " + x.house(house.length()));
        String law = "bar kind 1; bar ill; bar hour <6 or hour >20; bar claimed;";
        feed(x, law);
        System.out.println("rules " + x.rules(law.length()));
        feed(x, "bar kind 6;");
        System.out.println("a fault of kind 2 " + x.rules(11) + ", its place " + x.fault());

        System.out.println("barred by night " + x.bars(0, 0, 300, 0) + ", first lawful " + x.when(0, 0, 300, 0));
        System.out.println("acts " + x.take(0, 0, 480, 0) + " " + x.take(0, 1, 490, 0) + ", wrong " + x.wrong());
        System.out.println("fees " + x.stage(0, 0));
        System.out.println("below half " + x.sell(0, 99, 600) + ", the owner gets " + x.sell(0, 151, 600));
        System.out.println("proved by then " + x.sell(1, 90, 900) + ", given back " + x.good(1, 5));
        System.out.println("coin " + x.person(0, 3) + ", by ranks " + x.debt(0, 3) + " " + x.debt(1, 3));

        System.out.println("best " + x.best(1, 2, 0) + ", done " + x.best(1, 2, 1));
        System.out.println("promise " + x.promise(1, 25, 2) + ", done " + x.kept(0, 1));
        try {
            x.take(1, 0, 470, 0);
        } catch (IllegalStateException e) {
            System.out.println("refused, counted " + x.status(2));
        }
    }

    /** Twenty bytes a call, of each number the highest first; the last row is filled up with zeros. */
    private static void feed(ListedGoods x, String text) {
        byte[] bytes = text.getBytes(StandardCharsets.US_ASCII);
        ByteBuffer rows = ByteBuffer.wrap(Arrays.copyOf(bytes, (bytes.length + 19) / 20 * 20));
        while (rows.hasRemaining()) {
            x.feed(rows.getInt(), rows.getInt(), rows.getInt(), rows.getInt(), rows.getInt());
        }
    }
}
