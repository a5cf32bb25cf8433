/** The example of README.md, with the answers that it tells. */
public final class ReadmeTest {
    public static void main(String[] args) {
        ChangeCodec codec = new ChangeCodec();
        codec.begin(2, 3, 10);
        codec.hangs(0, 7);
        int map = codec.add(0, 0, 'a', 5, 0);
        Expect.due("the map's ID", map, 82);
        Expect.due("the int's ID", codec.add(0, map, 'b', 2, -65), 90);
        int bytes = codec.write();
        Expect.due("bytes of the OUTPUT", bytes, 21);
        Expect.due("the last byte", codec.output(20) >= 0, true);
        Expect.due("behind the last byte", codec.output(21), ChangeCodec.NONE);

        codec.turn();
        codec.give(0x0900L, 2);
        int first = codec.read();
        Expect.due("the first read()", first, 0);
        int value = codec.operation(1, 3);
        Expect.due("the VALUE", value, -65);
        int second = codec.read();
        Expect.due("the second read()", second, 1);
        Expect.due("the change stays", codec.of(3), 2);
        int place = codec.look(4);
        Expect.due("the place of the fault", place, 23);
        Expect.end();
    }
}
