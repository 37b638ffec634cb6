/** The calls of the document's face, so that one call can be made of two things that answer them. */
interface Face {
    int object();

    int section(int object, int kind, int power, int length);

    int bytes(int object, int section, int at, int v);

    int name(int object, int number, int sort, int section, int place);

    int reference(int object, int section, int place, int way, int name, int addend);

    int choose(int object);

    int link(int entry, int base);

    int fault(int what);

    int image(int i);

    int placeOf(int object, int section);

    int nameAt(int number);

    int write(int object);

    int written(int i);

    int alter(int i, int v);

    int read(int cut);

    int count(int what);
}
